/-! ===== the class: falling, moves ===== -/
theorem nEv_c {m m1 : pM} (h2 : m1 2 = m 2) (h3 : m1 3 = m 3) (l : pEv) : nEv m1 l 2 = nEv m l 2 ∧ nEv m1 l 3 = nEv m l 3 := by
  induction l generalizing m m1 with
  | nil => exact ⟨h2, h3⟩
  | cons q l ih =>
    obtain ⟨t, x⟩ := q
    cases t
    · show nEv (nMt m1 x) l 2 = nEv (nMt m x) l 2 ∧ nEv (nMt m1 x) l 3 = nEv (nMt m x) l 3
      refine ih ?_ ?_
      · funext j; unfold nMt wr; rw [h2]
      · rw [nMt_a _ _ _ (by omega), nMt_a _ _ _ (by omega)]; exact h3
    · show nEv (nWr m1 x) l 2 = nEv (nWr m x) l 2 ∧ nEv (nWr m1 x) l 3 = nEv (nWr m x) l 3
      have e : m1 2 1 = m 2 1 := by rw [h2]
      by_cases q : 60 ≤ m 2 1
      · have e1 : nWr m1 x = wr m1 2 1 (m1 2 1 + 1) := by unfold nWr; rw [if_pos (by rw [e]; exact q)]
        have e2 : nWr m x = wr m 2 1 (m 2 1 + 1) := by unfold nWr; rw [if_pos q]
        rw [e1, e2]
        refine ih ?_ ?_
        · funext j; unfold wr; rw [h2]
        · rw [wr_a _ _ _ (by omega), wr_a _ _ _ (by omega)]; exact h3
      · have e1 : nWr m1 x = wr (wr m1 3 (m1 2 1) x) 2 1 (m1 2 1 + 1) := by unfold nWr; rw [if_neg (by rw [e]; exact q)]
        have e2 : nWr m x = wr (wr m 3 (m 2 1) x) 2 1 (m 2 1 + 1) := by unfold nWr; rw [if_neg q]
        rw [e1, e2]
        refine ih ?_ ?_
        · funext j; unfold wr; rw [h2]
        · rw [wr_a (wr m1 3 (m1 2 1) x) _ _ (show (3 : Nat) ≠ 2 by omega), wr_a (wr m 3 (m 2 1) x) _ _ (show (3 : Nat) ≠ 2 by omega)]; funext j; unfold wr; rw [h2, h3]
/-- places of the chest at b have changed, and notes were made -/
def tM (m m1 : pM) (b : Nat) (ev : pEv) : Prop := (∀ a, a ≠ 2 → a ≠ 3 → a ≠ b + 4 → m1 a = m a) ∧ m1 2 = nEv m ev 2 ∧ m1 3 = nEv m ev 3
theorem tM.rf (m : pM) (b : Nat) : tM m m b [] := ⟨fun _ _ _ _ => rfl, rfl, rfl⟩
theorem tM.e {m m1 : pM} {b : Nat} {ev : pEv} (h : tM m m1 b ev) (l : pEv) : tM m (nEv m1 l) b (ev ++ l) := by
  have c := nEv_c (m := nEv m ev) h.2.1 h.2.2 l
  refine ⟨fun a h1 h2 h3 => by rw [nEv_a _ _ _ h1 h2]; exact h.1 a h1 h2 h3, ?_, ?_⟩
  · rw [c.1, nEv_app]
  · rw [c.2, nEv_app]
theorem tM.w {m m1 : pM} {b : Nat} {ev : pEv} (h : tM m m1 b ev) (hb : 5 ≤ b) (k x : Int) : tM m (wr m1 (b + 4) k x) b ev := ⟨fun a h1 h2 h3 => by rw [wr_a _ _ _ h3]; exact h.1 a h1 h2 h3, by rw [wr_a _ _ _ (by omega)]; exact h.2.1, by rw [wr_a _ _ _ (by omega)]; exact h.2.2⟩
theorem tM.s {A : pM} {c : Int} {m m1 : pM} {b : Nat} {ev : pEv} (h : tM m m1 b ev) (hb : 5 ≤ b) (hS : CS A c m b) : CS A c m1 b := hS.m (fun a h1 h2 h3 _ => h.1 a (by omega) (by omega) h3)
theorem tM.t {m m1 : pM} {b : Nat} {ev : pEv} (h : tM m m1 b ev) : m 2 1 ≤ m1 2 1 ∧ m1 2 1 ≤ m 2 1 + ev.length := by rw [h.2.1]; exact nEv_1 m ev
theorem tM.f {m m1 : pM} {b : Nat} {ev : pEv} (hb : 5 ≤ b) (h : tM m m1 b ev) : FrW (b + 4) (nEv m ev) m1 := fun a h1 => by
  by_cases q : a = 2
  · subst q; exact h.2.1
  · by_cases q2 : a = 3
    · subst q2; exact h.2.2
    · rw [nEv_a _ _ _ q q2]; exact h.1 a q q2 h1
theorem evw_len (w : Int) (l : pEv) : (evw w l).length ≤ l.length := by unfold evw; split; exact Nat.zero_le _; exact Nat.le_refl _
theorem CV.up {A : pM} {c : Int} {m : pM} {b : Nat} {v : Int → Int} (h : CV A c m b v) {s x : Int} (hk : aKind A c s ≠ -1) : CV A c (wr m (b + 4) s x) b (vUp v s x) := fun j j1 j2 => by
  unfold eAv vUp
  by_cases e : j = s
  · subst e; rw [wr_s, if_neg hk, if_pos rfl]
  · rw [wr_k _ _ _ _ e, h j j1 j2]; unfold eAv; rw [if_neg e]
set_option maxHeartbeats 4000000 in
set_option maxRecDepth 100000 in
theorem h_stepOfFall (d : Nat) (hd : 1 ≤ d) (n : Nat) (ok : pO) (mem : pM) (hN : NUp n ok) (b : Nat) (hC : ChUp n ok b) (A : pM) (c : Int) (v : Int → Int) (hI : cIn A c) (hS : CS A c mem b) (hV : CV A c mem b v) (hv : pOkv A c v) (s : Int) (hs : 0 ≤ s ∧ s ≤ 15) (t : Int) (ht : 0 ≤ t ∧ t ≤ 5) : PM mi_X0_stepOfFall d [vr b, vi s, vi t] n ok mem n (fun r ok' mem' => r = some (vi (tBy A c t s)) ∧ ok = ok' ∧ mem = mem') := by
  obtain ⟨hN5, hN3⟩ := id hN
  obtain ⟨hC0, ⟨hC1, hC2, hC3, hC4, hC5, hC6, hC7⟩, hC8, ⟨hC9, hC10, hC11, hC12, hC13, hC14, hC15⟩, hC16, hC17, hb5, hb59⟩ := id hC
  obtain ⟨hR, hD, hSo⟩ := id hS
  have hOk := hI.ok
  have e2 : mem (b + 2) s = aKind A c s := (hR.2.1 s hs.1 hs.2).1
  refine PM.of (by decide) (by decide) (Nat.le_refl _) (Nat.le_of_ble_eq_true rfl) ?_
  refine pw_aload_n 0 rfl dX0_stepOfFall_0 rfl ?_
  refine pw_gR 2 (b + 2) dX0_stepOfFall_1 cOk0 (by assumption) (by decide) kw_230 (by decide) rfl ?_
  refine pw_iload_n 1 rfl dX0_stepOfFall_4 rfl ?_
  refine pw_iaload dX0_stepOfFall_5 (by assumption) (by omega) (by omega) (fun r5 => ?_)
  rw [e2] at r5 ⊢
  refine pw_callS (d' := d - 1) (As := [_]) dX0_stepOfFall_6 ok_X0_isFaller kw_213 (by omega) rfl (Nat.le_of_ble_eq_true rfl) (s_isFaller (d - 1) (by omega) n ok mem _ (by omega)) (Nat.le_refl _) (Or.inl rfl) (fun r ok1 mem1 hq => ?_)
  obtain ⟨rfl, rfl, rfl⟩ := hq
  refine pw_if_ne 14 (by decide) dX0_stepOfFall_9 (by split <;> omega) (fun c9 => ?_) (fun c9 => ?_)
  · skip
    rw [ne_eq, bz_n] at c9
    have hkn : aKind A c s ≠ -1 := by omega
    have e5 : mem (b + 5) s = aSide A c s := (hR.2.1 s hs.1 hs.2).2.2 hkn
    refine pw_aload_n 0 rfl dX0_stepOfFall_14 rfl ?_
    refine pw_gR 5 (b + 5) dX0_stepOfFall_15 cOk0 (by assumption) (by decide) kw_241 (by decide) rfl ?_
    refine pw_iload_n 1 rfl dX0_stepOfFall_18 rfl ?_
    refine pw_iaload dX0_stepOfFall_19 (by assumption) (by omega) (by omega) (fun r19 => ?_)
    rw [e5] at r19 ⊢
    refine pw_iload_n 2 rfl dX0_stepOfFall_20 rfl ?_
    refine pw_icmp_ne 26 (by decide) dX0_stepOfFall_21 (by omega) (by omega) (fun c21 => ?_) (fun c21 => ?_)
    · skip
      refine pw_aload_n 0 rfl dX0_stepOfFall_26 rfl ?_
      refine pw_gR 5 (b + 5) dX0_stepOfFall_27 cOk0 (by assumption) (by decide) kw_241 (by decide) rfl ?_
      refine pw_iload_n 1 rfl dX0_stepOfFall_30 rfl ?_
      refine pw_iaload dX0_stepOfFall_31 (by assumption) (by omega) (by omega) (fun r31 => ?_)
      rw [e5] at r31 ⊢
      refine pw_iload_n 2 rfl dX0_stepOfFall_32 rfl ?_
      refine pw_iconst dX0_stepOfFall_33 ?_
      refine pw_ixor dX0_stepOfFall_34 ?_
      have hx := iXor_ran t 1
      refine pw_icmp_ne 42 (by decide) dX0_stepOfFall_35 (by omega) (by omega) (fun c35 => ?_) (fun c35 => ?_)
      · skip
        refine pw_iconst dX0_stepOfFall_42 ?_
        refine pw_iret dX0_stepOfFall_43 rfl rfl ?_
        refine ⟨congrArg (fun z => some (vi z)) ?_, rfl, rfl⟩
        unfold tBy; rw [if_neg (by omega), if_neg c21, if_neg c35]
      · skip
        refine pw_iconst dX0_stepOfFall_38 ?_
        refine pw_goto 43 (by decide) dX0_stepOfFall_39 ?_
        refine pw_iret dX0_stepOfFall_43 rfl rfl ?_
        refine ⟨congrArg (fun z => some (vi z)) ?_, rfl, rfl⟩
        unfold tBy; rw [if_neg (by omega), if_neg c21, if_pos (by omega)]
    · skip
      refine pw_iconst dX0_stepOfFall_24 ?_
      refine pw_iret dX0_stepOfFall_25 rfl rfl ?_
      refine ⟨congrArg (fun z => some (vi z)) ?_, rfl, rfl⟩
      unfold tBy; rw [if_neg (by omega), if_pos (by omega)]
  · skip
    rw [bz_0] at c9
    refine pw_iconst dX0_stepOfFall_12 ?_
    refine pw_iret dX0_stepOfFall_13 rfl rfl ?_
    refine ⟨congrArg (fun z => some (vi z)) ?_, rfl, rfl⟩
    unfold tBy; rw [if_pos (by omega)]
def bgF (A : pM) (c : Int) (v : Int → Int) (s : Int) : Int := if aKind A c s = 3 ∧ v s = aSpan A c s - 1 then 0 else 1
def bgE (A : pM) (c : Int) (v : Int → Int) (s : Int) : pEv := if aKind A c s = 3 then (if v s = aSpan A c s - 1 then [(true, 15)] else [(true, 15), (true, 13)]) else [(true, 13)]
set_option maxHeartbeats 4000000 in
set_option maxRecDepth 100000 in
theorem h_begins (d : Nat) (hd : 1 ≤ d) (n : Nat) (ok : pO) (mem : pM) (hN : NUp n ok) (b : Nat) (hC : ChUp n ok b) (A : pM) (c : Int) (v : Int → Int) (hI : cIn A c) (hS : CS A c mem b) (hV : CV A c mem b v) (hv : pOkv A c v) (s : Int) (hs : 0 ≤ s ∧ s ≤ 15) (hkn : aKind A c s ≠ -1) (w : Int) (hw : w = 0 ∨ w = 1) (ht : 0 ≤ mem 2 1 ∧ mem 2 1 ≤ 900000000) : PM mi_X0_beginsToFall d [vr b, vi s, vi w] n ok mem n (fun r ok' mem' => r = some (vi (bgF A c v s)) ∧ ok = ok' ∧ nEv mem (evw w (bgE A c v s)) = mem') := by
  obtain ⟨hN5, hN3⟩ := id hN
  obtain ⟨hC0, ⟨hC1, hC2, hC3, hC4, hC5, hC6, hC7⟩, hC8, ⟨hC9, hC10, hC11, hC12, hC13, hC14, hC15⟩, hC16, hC17, hb5, hb59⟩ := id hC
  obtain ⟨hR, hD, hSo⟩ := id hS
  have hOk := hI.ok
  have e2 : mem (b + 2) s = aKind A c s := (hR.2.1 s hs.1 hs.2).1
  have e3 : mem (b + 3) s = aSpan A c s := by rw [(hR.2.1 s hs.1 hs.2).2.1]; unfold eSp; rw [if_neg hkn]
  have e4 : mem (b + 4) s = v s := by rw [hV s hs.1 hs.2]; unfold eAv; rw [if_neg hkn]
  have hp := hOk.1.2.2 s hs.1 hs.2 hkn
  refine PM.of (by decide) (by decide) (Nat.le_refl _) (Nat.le_of_ble_eq_true rfl) ?_
  refine pw_aload_n 0 rfl dX0_beginsToFall_0 rfl ?_
  refine pw_gR 2 (b + 2) dX0_beginsToFall_1 cOk0 (by assumption) (by decide) kw_230 (by decide) rfl ?_
  refine pw_iload_n 1 rfl dX0_beginsToFall_4 rfl ?_
  refine pw_iaload dX0_beginsToFall_5 (by assumption) (by omega) (by omega) (fun r5 => ?_)
  rw [e2] at r5 ⊢
  refine pw_iconst dX0_beginsToFall_6 ?_
  refine pw_icmp_ne 42 (by decide) dX0_beginsToFall_7 (by omega) (by omega) (fun c7 => ?_) (fun c7 => ?_)
  · skip
    refine pw_iload_n 2 rfl dX0_beginsToFall_42 rfl ?_
    refine pw_if_eq 55 (by decide) dX0_beginsToFall_43 (by omega) (fun c43 => ?_) (fun c43 => ?_)
    · skip
      have hw0 : w = 0 := c43
      subst hw0
      refine pw_iconst dX0_beginsToFall_55 ?_
      refine pw_zret dX0_beginsToFall_56 rfl (by omega) rfl ?_
      refine ⟨congrArg (fun z => some (vi z)) ?_, rfl, ?_⟩
      · unfold bgF; rw [if_neg (by omega)]
      · unfold bgE; rw [if_neg c7]; rfl
    · skip
      have hw1 : w = 1 := by omega
      subst hw1
      refine pw_aload_n 0 rfl dX0_beginsToFall_46 rfl ?_
      refine pw_gR 0 2 dX0_beginsToFall_47 cOk0 (by assumption) (by decide) kw_227 (by decide) rfl ?_
      refine pw_bipush dX0_beginsToFall_50 (by decide) ?_
      refine pw_callV (d' := d - 1) (As := [_]) (ci := 5) dX0_beginsToFall_52 ok_X5_write kw_711 rfl rfl (Of.o (by assumption)) (by omega) rfl (Nat.le_of_ble_eq_true rfl) (n_write (d - 1) (by omega) n ok _ hN 13 (by omega) (by omega)) (Nat.le_refl _) (Or.inl rfl) (fun r ok1 m2 hq => ?_)
      obtain ⟨rfl, rfl, em2⟩ := hq
      refine pw_iconst dX0_beginsToFall_55 ?_
      refine pw_zret dX0_beginsToFall_56 rfl (by omega) rfl ?_
      refine ⟨congrArg (fun z => some (vi z)) ?_, rfl, ?_⟩
      · unfold bgF; rw [if_neg (by omega)]
      · unfold bgE; rw [if_neg c7]; exact em2
  · skip
    refine pw_iload_n 2 rfl dX0_beginsToFall_10 rfl ?_
    refine pw_if_eq 23 (by decide) dX0_beginsToFall_11 (by omega) (fun c11 => ?_) (fun c11 => ?_)
    · skip
      have hw0 : w = 0 := c11
      subst hw0
      refine pw_aload_n 0 rfl dX0_beginsToFall_23 rfl ?_
      refine pw_gR 4 (b + 4) dX0_beginsToFall_24 cOk0 (by assumption) (by decide) kw_238 (by decide) rfl ?_
      refine pw_iload_n 1 rfl dX0_beginsToFall_27 rfl ?_
      refine pw_iaload dX0_beginsToFall_28 (by assumption) (by omega) (by omega) (fun r28 => ?_)
      rw [e4] at r28 ⊢
      refine pw_aload_n 0 rfl dX0_beginsToFall_29 rfl ?_
      refine pw_gR 3 (b + 3) dX0_beginsToFall_30 cOk0 (by assumption) (by decide) kw_234 (by decide) rfl ?_
      refine pw_iload_n 1 rfl dX0_beginsToFall_33 rfl ?_
      refine pw_iaload dX0_beginsToFall_34 (by assumption) (by omega) (by omega) (fun r34 => ?_)
      rw [e3] at r34 ⊢
      refine pw_iconst dX0_beginsToFall_35 ?_
      refine pw_isub dX0_beginsToFall_36 ?_
      refine pw_icmp_ne 42 (by decide) dX0_beginsToFall_37 (by omega) (by omega) (fun c37 => ?_) (fun c37 => ?_)
      · skip
        refine pw_iload_n 2 rfl dX0_beginsToFall_42 rfl ?_
        refine pw_if_eq 55 (by decide) dX0_beginsToFall_43 (by omega) (fun c43 => ?_) (fun c43 => ?_)
        · skip
          refine pw_iconst dX0_beginsToFall_55 ?_
          refine pw_zret dX0_beginsToFall_56 rfl (by omega) rfl ?_
          refine ⟨congrArg (fun z => some (vi z)) ?_, rfl, ?_⟩
          · unfold bgF; rw [if_neg (by omega)]
          · unfold bgE; rw [if_pos (by omega), if_neg c37]; rfl
        · skip
          exfalso; omega
      · skip
        refine pw_iconst dX0_beginsToFall_40 ?_
        refine pw_zret dX0_beginsToFall_41 rfl (by omega) rfl ?_
        refine ⟨congrArg (fun z => some (vi z)) ?_, rfl, ?_⟩
        · unfold bgF; rw [if_pos ⟨by omega, by omega⟩]
        · unfold bgE; rw [if_pos (by omega), if_pos (by omega)]; rfl
    · skip
      have hw1 : w = 1 := by omega
      subst hw1
      refine pw_aload_n 0 rfl dX0_beginsToFall_14 rfl ?_
      refine pw_gR 0 2 dX0_beginsToFall_15 cOk0 (by assumption) (by decide) kw_227 (by decide) rfl ?_
      refine pw_bipush dX0_beginsToFall_18 (by decide) ?_
      refine pw_callV (d' := d - 1) (As := [_]) (ci := 5) dX0_beginsToFall_20 ok_X5_write kw_711 rfl rfl (Of.o (by assumption)) (by omega) rfl (Nat.le_of_ble_eq_true rfl) (n_write (d - 1) (by omega) n ok mem hN 15 (by omega) (by omega)) (Nat.le_refl _) (Or.inl rfl) (fun r ok1 m1 hq => ?_)
      obtain ⟨rfl, rfl, em1⟩ := hq
      have h21 : m1 2 1 = mem 2 1 + 1 := by rw [← em1]; exact nWr_1 _ _
      have g3 : m1 (b + 3) = mem (b + 3) := by rw [← em1]; exact nWr_a _ _ _ (by omega) (by omega)
      have g4 : m1 (b + 4) = mem (b + 4) := by rw [← em1]; exact nWr_a _ _ _ (by omega) (by omega)
      refine pw_aload_n 0 rfl dX0_beginsToFall_23 rfl ?_
      refine pw_gR 4 (b + 4) dX0_beginsToFall_24 cOk0 (by assumption) (by decide) kw_238 (by decide) rfl ?_
      refine pw_iload_n 1 rfl dX0_beginsToFall_27 rfl ?_
      refine pw_iaload dX0_beginsToFall_28 (by assumption) (by omega) (by omega) (fun r28 => ?_)
      rw [g4, e4] at r28 ⊢
      refine pw_aload_n 0 rfl dX0_beginsToFall_29 rfl ?_
      refine pw_gR 3 (b + 3) dX0_beginsToFall_30 cOk0 (by assumption) (by decide) kw_234 (by decide) rfl ?_
      refine pw_iload_n 1 rfl dX0_beginsToFall_33 rfl ?_
      refine pw_iaload dX0_beginsToFall_34 (by assumption) (by omega) (by omega) (fun r34 => ?_)
      rw [g3, e3] at r34 ⊢
      refine pw_iconst dX0_beginsToFall_35 ?_
      refine pw_isub dX0_beginsToFall_36 ?_
      refine pw_icmp_ne 42 (by decide) dX0_beginsToFall_37 (by omega) (by omega) (fun c37 => ?_) (fun c37 => ?_)
      · skip
        refine pw_iload_n 2 rfl dX0_beginsToFall_42 rfl ?_
        refine pw_if_eq 55 (by decide) dX0_beginsToFall_43 (by omega) (fun c43 => ?_) (fun c43 => ?_)
        · skip
          exfalso; omega
        · skip
          refine pw_aload_n 0 rfl dX0_beginsToFall_46 rfl ?_
          refine pw_gR 0 2 dX0_beginsToFall_47 cOk0 (by assumption) (by decide) kw_227 (by decide) rfl ?_
          refine pw_bipush dX0_beginsToFall_50 (by decide) ?_
          refine pw_callV (d' := d - 1) (As := [_]) (ci := 5) dX0_beginsToFall_52 ok_X5_write kw_711 rfl rfl (Of.o (by assumption)) (by omega) rfl (Nat.le_of_ble_eq_true rfl) (n_write (d - 1) (by omega) n ok _ hN 13 (by omega) (by omega)) (Nat.le_refl _) (Or.inl rfl) (fun r ok1 m2 hq => ?_)
          obtain ⟨rfl, rfl, em2⟩ := hq
          refine pw_iconst dX0_beginsToFall_55 ?_
          refine pw_zret dX0_beginsToFall_56 rfl (by omega) rfl ?_
          refine ⟨congrArg (fun z => some (vi z)) ?_, rfl, ?_⟩
          · unfold bgF; rw [if_neg (by omega)]
          · unfold bgE; rw [if_pos (by omega), if_neg c37]; rw [← em2, ← em1]; rfl
      · skip
        refine pw_iconst dX0_beginsToFall_40 ?_
        refine pw_zret dX0_beginsToFall_41 rfl (by omega) rfl ?_
        refine ⟨congrArg (fun z => some (vi z)) ?_, rfl, ?_⟩
        · unfold bgF; rw [if_pos ⟨by omega, by omega⟩]
        · unfold bgE; rw [if_pos (by omega), if_pos (by omega)]; exact em1
theorem tSt_f {A : pM} {c t s : Int} {v : Int → Int} (h : tBy A c t s ≠ 0) : tSt A c t s v = if bgF A c v s = 0 then (v, bgE A c v s) else ((faGo A c s (tBy A c t s) 7 v).1, bgE A c v s ++ (faGo A c s (tBy A c t s) 7 v).2) := by
  unfold tSt bgE
  rw [if_neg h]
  by_cases q : aKind A c s = 3
  · rw [if_pos q, if_pos q]
    by_cases q2 : v s = aSpan A c s - 1
    · have e0 : bgF A c v s = 0 := by unfold bgF; rw [if_pos ⟨q, q2⟩]
      rw [if_pos q2, if_pos q2, if_pos e0]
    · have e0 : bgF A c v s = 1 := by unfold bgF; rw [if_neg (fun z => q2 z.2)]
      rw [if_neg q2, if_neg q2, if_neg (by omega)]; rfl
  · have e0 : bgF A c v s = 1 := by unfold bgF; rw [if_neg (fun z => q z.1)]
    rw [if_neg q, if_neg q, if_neg (by omega)]; rfl
theorem tBy_v (A : pM) (c t s : Int) : tBy A c t s = 0 ∨ tBy A c t s = 1 ∨ tBy A c t s = -1 := by unfold tBy; (repeat' split) <;> omega
theorem bgF_01 (A : pM) (c : Int) (v : Int → Int) (s : Int) : bgF A c v s = 0 ∨ bgF A c v s = 1 := by unfold bgF; split <;> omega
theorem bgE_len (A : pM) (c : Int) (v : Int → Int) (s : Int) : (bgE A c v s).length ≤ 2 := by unfold bgE; (repeat' split) <;> decide
set_option maxHeartbeats 4000000 in
set_option maxRecDepth 100000 in
theorem h_tilt (d : Nat) (hd : 3 ≤ d) (n : Nat) (ok : pO) (mem : pM) (hN : NUp n ok) (b : Nat) (hC : ChUp n ok b) (A : pM) (c : Int) (v : Int → Int) (hI : cIn A c) (hS : CS A c mem b) (hV : CV A c mem b v) (hv : pOkv A c v) (t : Int) (ht5 : 0 ≤ t ∧ t ≤ 5) (w : Int) (hw : w = 0 ∨ w = 1) (ht : 0 ≤ mem 2 1 ∧ mem 2 1 ≤ 800000000) : PM mi_X0_tilt d [vr b, vi t, vi w] n ok mem n (fun r ok' mem' => r = none ∧ ok = ok' ∧ tM mem mem' b (evw w (tGo A c t 16 v).2) ∧ CV A c mem' b (tGo A c t 16 v).1) := by
  obtain ⟨hN5, hN3⟩ := id hN
  obtain ⟨hC0, ⟨hC1, hC2, hC3, hC4, hC5, hC6, hC7⟩, hC8, ⟨hC9, hC10, hC11, hC12, hC13, hC14, hC15⟩, hC16, hC17, hb5, hb59⟩ := id hC
  obtain ⟨hR, hD, hSo⟩ := id hS
  have hOk := hI.ok
  refine PM.of (by decide) (by decide) (Nat.le_refl _) (Nat.le_of_ble_eq_true rfl) ?_
  refine pw_iconst dX0_tilt_0 ?_
  refine pw_istore_n 3 rfl dX0_tilt_1 (by decide) ?_
  have lp2 : ∀ (kz : Nat) (i : Nat) (m1 : pM), 16 - (i : Int) < (kz : Int) → (i ≤ 16) → (tM mem m1 b (evw w (tGo A c t i v).2)) → (CV A c m1 b (tGo A c t i v).1) → PW mi_X0_tilt d n n (fun r ok' mem' => r = none ∧ ok = ok' ∧ tM mem mem' b (evw w (tGo A c t 16 v).2) ∧ CV A c mem' b (tGo A c t 16 v).1) 2 [(0, vr b), (1, vi t), (2, vi w), (3, vi (i : Int))] [] n ok m1 := by
    intro kz
    induction kz with
    | zero =>
      intro i m1 hk h1 hM hW
      exact absurd hk (by omega)
    | succ kz ih =>
      intro i m1 hk h1 hM hW
      obtain ⟨u0, eu0⟩ : ∃ x, x = (tGo A c t i v).1 := ⟨_, rfl⟩
      have hu0 : pOkv A c u0 := by rw [eu0]; exact tGo_ok t i hv
      rw [← eu0] at hW
      have hl0 := tGo_len (m := A) (c := c) hI.2.2.1.1 t i v
      have hl1 := evw_len w (tGo A c t i v).2
      have ht1 := hM.t
      have hS1 := hM.s hb5 hS
      refine pw_iload_n 3 rfl dX0_tilt_2 rfl ?_
      refine pw_bipush dX0_tilt_3 (by decide) ?_
      refine pw_icmp_ge 125 (by decide) dX0_tilt_5 (by omega) (by omega) (fun c5 => ?_) (fun c5 => ?_)
      · skip
        have e16 : i = 16 := by omega
        subst e16
        refine pw_vret dX0_tilt_125 rfl rfl ?_
        rw [eu0] at hW
        exact ⟨rfl, rfl, hM, hW⟩
      · skip
        refine pw_aload_n 0 rfl dX0_tilt_8 rfl ?_
        refine pw_iload_n 3 rfl dX0_tilt_9 rfl ?_
        refine pw_iload_n 1 rfl dX0_tilt_10 rfl ?_
        refine pw_callV (d' := d - 1) (As := [_, _]) (ci := 0) dX0_tilt_11 ok_X0_stepOfFall kw_703 rfl rfl (Of.o (by assumption)) (by omega) rfl (Nat.le_of_ble_eq_true rfl) (h_stepOfFall (d - 1) (by omega) n ok m1 hN b hC A c u0 hI hS1 hW hu0 (i : Int) (by omega) t ht5) (Nat.le_refl _) (Or.inl rfl) (fun r ok1 mem1 hq => ?_)
        obtain ⟨rfl, rfl, rfl⟩ := hq
        have hty := tBy_v A c t (i : Int)
        have e3 : mem (b + 3) (i : Int) = eSp A c (i : Int) := (hR.2.1 _ (by omega) (by omega)).2.1
        have hsr := eSp_ran hOk.1.2.2 (i : Int) (by omega) (by omega)
        refine pw_istore dX0_tilt_14 (by decide) ?_
        refine pw_iload dX0_tilt_16 rfl ?_
        refine pw_if_eq 34 (by decide) dX0_tilt_18 (by omega) (fun c18 => ?_) (fun c18 => ?_)
        · skip
          have hts : tSt A c t (i : Int) u0 = (u0, []) := by unfold tSt; rw [if_pos c18]
          have hev0 : evw w [] = [] := by unfold evw; split <;> rfl
          have hin0 : (0 : Int) = 0 ∧ tSt A c t (i : Int) u0 = (u0, []) := ⟨rfl, hts⟩
          have hM0 : tM mem m1 b (evw w (tGo A c t i v).2 ++ evw w []) := by rw [hev0, List.append_nil]; exact hM
          have hl2 : ([] : pEv).length ≤ 2 := by decide
          refine pw_iconst dX0_tilt_34 ?_
          refine pw_istore dX0_tilt_35 (by decide) ?_
          refine pw_iconst dX0_tilt_37 ?_
          refine pw_istore dX0_tilt_38 (by decide) ?_
          have lp40 : ∀ (kz2 : Nat) (j g : Int) (u : Int → Int) (ev1 : pEv) (m2 : pM), 7 - j < (kz2 : Int) → (1 ≤ j ∧ j ≤ 7) → ((g = 1 ∧ (tBy A c t (i : Int)) ≠ 0 ∧ u (i : Int) = u0 (i : Int) + (tBy A c t (i : Int)) * (j - 1) ∧ tSt A c t (i : Int) u0 = ((faGo A c (i : Int) (tBy A c t (i : Int)) (8 - j).toNat u).1, ev1 ++ (faGo A c (i : Int) (tBy A c t (i : Int)) (8 - j).toNat u).2)) ∨ (g = 0 ∧ tSt A c t (i : Int) u0 = (u, ev1))) → (tM mem m2 b (evw w (tGo A c t i v).2 ++ evw w ev1)) → (CV A c m2 b u) → (pOkv A c u) → ((ev1.length : Int) ≤ 2 + 120 * (j - 1)) → PW mi_X0_tilt d n n (fun r ok' mem' => r = none ∧ ok = ok' ∧ tM mem mem' b (evw w (tGo A c t 16 v).2) ∧ CV A c mem' b (tGo A c t 16 v).1) 40 [(0, vr b), (1, vi t), (2, vi w), (3, vi (i : Int)), (4, vi (tBy A c t (i : Int))), (5, vi g), (6, vi j)] [] n ok m2 := by
            intro kz2
            induction kz2 with
            | zero =>
              intro j g u ev1 m2 hk2 hj hin hM2 hW2 hu hle
              exact absurd hk2 (by omega)
            | succ kz2 ih2 =>
              intro j g u ev1 m2 hk2 hj hin hM2 hW2 hu hle
              have g3 : m2 (b + 3) = mem (b + 3) := hM2.1 (b + 3) (by omega) (by omega) (by omega)
              have hS2 := hM2.s hb5 hS
              have ht2 := hM2.t
              rw [List.length_append] at ht2
              have hl3 := evw_len w ev1
              have hg01 : g = 0 ∨ g = 1 := by omega
              refine pw_iload dX0_tilt_40 rfl ?_
              refine pw_aload_n 0 rfl dX0_tilt_42 rfl ?_
              refine pw_gR 3 (b + 3) dX0_tilt_43 cOk0 (by assumption) (by decide) kw_234 (by decide) rfl ?_
              refine pw_iload_n 3 rfl dX0_tilt_46 rfl ?_
              refine pw_iaload dX0_tilt_47 (by assumption) (by omega) (by omega) (fun r47 => ?_)
              try simp (disch := omega) only [wr_s, wr_a, wr_k] at r47 ⊢
              rw [g3, e3] at r47 ⊢
              refine pw_icmp_ge 119 (by decide) dX0_tilt_48 (by omega) (by omega) (fun c48 => ?_) (fun c48 => ?_)
              · skip
                refine pw_iinc dX0_tilt_119 rfl (by decide) ?_
                refine pw_goto 2 (by decide) dX0_tilt_122 ?_
                have hres : tSt A c t (i : Int) u0 = (u, ev1) := by
                  rcases hin with z | z
                  · rw [z.2.2.2]
                    have hend : faGo A c (i : Int) (tBy A c t (i : Int)) (8 - j).toNat u = (u, []) := by
                      by_cases y : (8 - j).toNat = 0
                      · rw [y]; rfl
                      · obtain ⟨f, ef⟩ : ∃ f, (8 - j).toNat = f + 1 := ⟨(8 - j).toNat - 1, by omega⟩
                        rw [ef, faGo_succ, if_neg]
                        have z3 := z.2.2.1
                        have hcs : j ≥ eSp A c (i : Int) := by omega
                        have hkn := tBy_kind z.2.1
                        have hsp : eSp A c (i : Int) = aSpan A c (i : Int) := by unfold eSp; rw [if_neg (by omega)]
                        have hu9 := hu0 (i : Int) (by omega) (by omega) (by omega)
                        rcases tBy_v A c t (i : Int) with y1 | y1 | y1
                        · exact absurd y1 z.2.1
                        · rw [y1] at z3 ⊢; omega
                        · rw [y1] at z3 ⊢; omega
                    rw [hend]; show (u, ev1 ++ []) = _; rw [List.append_nil]
                  · exact z.2
                have hG2 : tGo A c t (i + 1) v = (u, (tGo A c t i v).2 ++ ev1) := by rw [tGo_succ, ← eu0, hres]
                exact pw_locs _ rfl (ih (i + 1) m2 (by omega) (by omega) (by rw [hG2]; show tM mem m2 b (evw w ((tGo A c t i v).2 ++ ev1)); rw [evw_app]; exact hM2) (by rw [hG2]; exact hW2))
              · skip
                refine pw_iload dX0_tilt_51 rfl ?_
                refine pw_if_eq 119 (by decide) dX0_tilt_53 (by omega) (fun c53 => ?_) (fun c53 => ?_)
                · skip
                  refine pw_iinc dX0_tilt_119 rfl (by decide) ?_
                  refine pw_goto 2 (by decide) dX0_tilt_122 ?_
                  have hres : tSt A c t (i : Int) u0 = (u, ev1) := by
                    rcases hin with z | z
                    · rw [z.2.2.2]
                      have hend : faGo A c (i : Int) (tBy A c t (i : Int)) (8 - j).toNat u = (u, []) := by
                        by_cases y : (8 - j).toNat = 0
                        · rw [y]; rfl
                        · obtain ⟨f, ef⟩ : ∃ f, (8 - j).toNat = f + 1 := ⟨(8 - j).toNat - 1, by omega⟩
                          rw [ef, faGo_succ, if_neg]
                          have z3 := z.2.2.1
                          have hcs : j ≥ eSp A c (i : Int) := by omega
                          have hkn := tBy_kind z.2.1
                          have hsp : eSp A c (i : Int) = aSpan A c (i : Int) := by unfold eSp; rw [if_neg (by omega)]
                          have hu9 := hu0 (i : Int) (by omega) (by omega) (by omega)
                          rcases tBy_v A c t (i : Int) with y1 | y1 | y1
                          · exact absurd y1 z.2.1
                          · rw [y1] at z3 ⊢; omega
                          · rw [y1] at z3 ⊢; omega
                      rw [hend]; show (u, ev1 ++ []) = _; rw [List.append_nil]
                    · exact z.2
                  have hG2 : tGo A c t (i + 1) v = (u, (tGo A c t i v).2 ++ ev1) := by rw [tGo_succ, ← eu0, hres]
                  exact pw_locs _ rfl (ih (i + 1) m2 (by omega) (by omega) (by rw [hG2]; show tM mem m2 b (evw w ((tGo A c t i v).2 ++ ev1)); rw [evw_app]; exact hM2) (by rw [hG2]; exact hW2))
                · skip
                  have hg : g = 1 ∧ (tBy A c t (i : Int)) ≠ 0 ∧ u (i : Int) = u0 (i : Int) + (tBy A c t (i : Int)) * (j - 1) ∧ tSt A c t (i : Int) u0 = ((faGo A c (i : Int) (tBy A c t (i : Int)) (8 - j).toNat u).1, ev1 ++ (faGo A c (i : Int) (tBy A c t (i : Int)) (8 - j).toNat u).2) := by rcases hin with z | z; exact z; exact absurd z.1 c53
                  have hkn := tBy_kind hg.2.1
                  have hkn2 : aKind A c (i : Int) ≠ -1 := by omega
                  have hsp : eSp A c (i : Int) = aSpan A c (i : Int) := by unfold eSp; rw [if_neg hkn2]
                  have e4 : m2 (b + 4) (i : Int) = u (i : Int) := by rw [hW2 _ (by omega) (by omega)]; unfold eAv; rw [if_neg hkn2]
                  have hur := hu (i : Int) (by omega) (by omega) hkn2
                  obtain ⟨f, ef⟩ : ∃ f, (8 - j).toNat = f + 1 := ⟨(8 - j).toNat - 1, by omega⟩
                  have hst := hg.2.2.2
                  rw [ef, faGo_succ] at hst
                  refine pw_aload_n 0 rfl dX0_tilt_56 rfl ?_
                  refine pw_gR 4 (b + 4) dX0_tilt_57 cOk0 (by assumption) (by decide) kw_238 (by decide) rfl ?_
                  refine pw_iload_n 3 rfl dX0_tilt_60 rfl ?_
                  refine pw_iaload dX0_tilt_61 (by assumption) (by omega) (by omega) (fun r61 => ?_)
                  try simp (disch := omega) only [wr_s, wr_a, wr_k] at r61 ⊢
                  rw [e4] at r61 ⊢
                  refine pw_iload dX0_tilt_62 rfl ?_
                  refine pw_iadd dX0_tilt_64 ?_
                  refine pw_istore dX0_tilt_65 (by decide) ?_
                  refine pw_iload dX0_tilt_67 rfl ?_
                  refine pw_if_lt 97 (by decide) dX0_tilt_69 (by omega) (fun c69 => ?_) (fun c69 => ?_)
                  · skip
                    refine pw_iconst dX0_tilt_97 ?_
                    refine pw_istore dX0_tilt_98 (by decide) ?_
                    refine pw_iload dX0_tilt_100 rfl ?_
                    refine pw_if_eq 113 (by decide) dX0_tilt_102 (by omega) (fun c102 => ?_) (fun c102 => ?_)
                    · skip
                      refine pw_iinc dX0_tilt_113 rfl (by decide) ?_
                      refine pw_goto 40 (by decide) dX0_tilt_116 ?_
                      have hst2 : tSt A c t (i : Int) u0 = (u, ev1) := by rw [hst, if_neg (by omega)]; show (u, ev1 ++ []) = _; rw [List.append_nil]
                      exact pw_locs _ rfl (ih2 (j + 1) 0 u ev1 m2 (by omega) (by omega) (Or.inr ⟨rfl, hst2⟩) hM2 hW2 hu (by omega))
                    · skip
                      exfalso; omega
                  · skip
                    refine pw_iload dX0_tilt_72 rfl ?_
                    refine pw_aload_n 0 rfl dX0_tilt_74 rfl ?_
                    refine pw_gR 3 (b + 3) dX0_tilt_75 cOk0 (by assumption) (by decide) kw_234 (by decide) rfl ?_
                    refine pw_iload_n 3 rfl dX0_tilt_78 rfl ?_
                    refine pw_iaload dX0_tilt_79 (by assumption) (by omega) (by omega) (fun r79 => ?_)
                    try simp (disch := omega) only [wr_s, wr_a, wr_k] at r79 ⊢
                    rw [g3, e3, hsp] at r79 ⊢
                    refine pw_icmp_ge 97 (by decide) dX0_tilt_80 (by omega) (by omega) (fun c80 => ?_) (fun c80 => ?_)
                    · skip
                      refine pw_iconst dX0_tilt_97 ?_
                      refine pw_istore dX0_tilt_98 (by decide) ?_
                      refine pw_iload dX0_tilt_100 rfl ?_
                      refine pw_if_eq 113 (by decide) dX0_tilt_102 (by omega) (fun c102 => ?_) (fun c102 => ?_)
                      · skip
                        refine pw_iinc dX0_tilt_113 rfl (by decide) ?_
                        refine pw_goto 40 (by decide) dX0_tilt_116 ?_
                        have hst2 : tSt A c t (i : Int) u0 = (u, ev1) := by rw [hst, if_neg (by omega)]; show (u, ev1 ++ []) = _; rw [List.append_nil]
                        exact pw_locs _ rfl (ih2 (j + 1) 0 u ev1 m2 (by omega) (by omega) (Or.inr ⟨rfl, hst2⟩) hM2 hW2 hu (by omega))
                      · skip
                        exfalso; omega
                    · skip
                      refine pw_aload_n 0 rfl dX0_tilt_83 rfl ?_
                      refine pw_iload_n 3 rfl dX0_tilt_84 rfl ?_
                      refine pw_iload_n 2 rfl dX0_tilt_85 rfl ?_
                      refine pw_callV (d' := d - 1) (As := [_, _]) (ci := 0) dX0_tilt_86 ok_X0_firstThatFails kw_666 rfl rfl (Of.o (by assumption)) (by omega) rfl (Nat.le_of_ble_eq_true rfl) (h_ftf (d - 1) (by omega) n ok m2 hN b hC A c u hI hS2 hW2 hu (i : Int) (by omega) w hw (by omega)) (Nat.le_refl _) (Or.inl rfl) (fun r ok1 m4 hq => ?_)
                      obtain ⟨rfl, rfl, em4⟩ := hq
                      have hM4 : tM mem m4 b (evw w (tGo A c t i v).2 ++ evw w (ev1 ++ (fRes A c u (i : Int)).2)) := by rw [← em4, evw_app, ← List.append_assoc]; exact hM2.e _
                      have hW4 : CV A c m4 b u := by rw [← em4]; exact hW2.ev hb5 _
                      have hfl := fRes_len (m := A) (c := c) u (i : Int) hI.2.2.1.1
                      have hfr := fRes_ran (m := A) (c := c) u (i : Int) hI.2.2.1.1
                      refine pw_iconst dX0_tilt_89 ?_
                      refine pw_icmp_ne 97 (by decide) dX0_tilt_90 (by have e0 : aNc A c = A 94 c := rfl; have := hI.2.2.1.1; omega) (by omega) (fun c90 => ?_) (fun c90 => ?_)
                      · skip
                        refine pw_iconst dX0_tilt_97 ?_
                        refine pw_istore dX0_tilt_98 (by decide) ?_
                        refine pw_iload dX0_tilt_100 rfl ?_
                        refine pw_if_eq 113 (by decide) dX0_tilt_102 (by omega) (fun c102 => ?_) (fun c102 => ?_)
                        · skip
                          refine pw_iinc dX0_tilt_113 rfl (by decide) ?_
                          refine pw_goto 40 (by decide) dX0_tilt_116 ?_
                          have hst2 : tSt A c t (i : Int) u0 = (u, ev1 ++ (fRes A c u (i : Int)).2) := by rw [hst, if_pos (by omega), if_neg c90]
                          exact pw_locs _ rfl (ih2 (j + 1) 0 u (ev1 ++ (fRes A c u (i : Int)).2) m4 (by omega) (by omega) (Or.inr ⟨rfl, hst2⟩) hM4 hW4 hu (by rw [List.length_append]; omega))
                        · skip
                          exfalso; omega
                      · skip
                        refine pw_iconst dX0_tilt_93 ?_
                        refine pw_goto 98 (by decide) dX0_tilt_94 ?_
                        refine pw_istore dX0_tilt_98 (by decide) ?_
                        refine pw_iload dX0_tilt_100 rfl ?_
                        refine pw_if_eq 113 (by decide) dX0_tilt_102 (by omega) (fun c102 => ?_) (fun c102 => ?_)
                        · skip
                          exfalso; omega
                        · skip
                          refine pw_aload_n 0 rfl dX0_tilt_105 rfl ?_
                          refine pw_gR 4 (b + 4) dX0_tilt_106 cOk0 (by assumption) (by decide) kw_238 (by decide) rfl ?_
                          refine pw_iload_n 3 rfl dX0_tilt_109 rfl ?_
                          refine pw_iload dX0_tilt_110 rfl ?_
                          refine pw_iastore dX0_tilt_112 (by assumption) (by omega) (by omega) (by omega) ?_
                          refine pw_iinc dX0_tilt_113 rfl (by decide) ?_
                          refine pw_goto 40 (by decide) dX0_tilt_116 ?_
                          have hst2 : tSt A c t (i : Int) u0 = ((faGo A c (i : Int) (tBy A c t (i : Int)) (8 - (j + 1)).toNat (vUp u (i : Int) (u (i : Int) + (tBy A c t (i : Int))))).1, (ev1 ++ (fRes A c u (i : Int)).2) ++ (faGo A c (i : Int) (tBy A c t (i : Int)) (8 - (j + 1)).toNat (vUp u (i : Int) (u (i : Int) + (tBy A c t (i : Int))))).2) := by
                            rw [hst, if_pos (by omega), if_pos (by omega), show (8 - (j + 1)).toNat = f by omega, List.append_assoc]
                          have hup : pOkv A c (vUp u (i : Int) (u (i : Int) + (tBy A c t (i : Int)))) := fun q q1 q2 q3 => by
                            unfold vUp
                            by_cases e : q = (i : Int)
                            · rw [if_pos e, e]; omega
                            · rw [if_neg e]; exact hu q q1 q2 q3
                          exact pw_locs _ rfl (ih2 (j + 1) 1 (vUp u (i : Int) (u (i : Int) + (tBy A c t (i : Int)))) (ev1 ++ (fRes A c u (i : Int)).2) _ (by omega) (by omega) (Or.inl ⟨rfl, hg.2.1, by show (if _ then _ else _) = _; rw [if_pos rfl, hg.2.2.1, show (j + 1 - 1 : Int) = (j - 1) + 1 by omega, Int.mul_add, Int.mul_one, Int.add_assoc], hst2⟩) (hM4.w hb5 _ _) (hW4.up hkn2) hup (by rw [List.length_append]; omega))
          exact pw_locs _ rfl (lp40 7 1 0 u0 [] m1 (by omega) (by omega) (Or.inr hin0) hM0 hW hu0 (by omega))
        · skip
          have hkn := tBy_kind c18
          have hts := tSt_f (v := u0) c18
          have hbF := bgF_01 A c u0 (i : Int)
          have hl2 := bgE_len A c u0 (i : Int)
          refine pw_aload_n 0 rfl dX0_tilt_21 rfl ?_
          refine pw_iload_n 3 rfl dX0_tilt_22 rfl ?_
          refine pw_iload_n 2 rfl dX0_tilt_23 rfl ?_
          refine pw_callV (d' := d - 1) (As := [_, _]) (ci := 0) dX0_tilt_24 ok_X0_beginsToFall kw_707 rfl rfl (Of.o (by assumption)) (by omega) rfl (Nat.le_of_ble_eq_true rfl) (h_begins (d - 1) (by omega) n ok m1 hN b hC A c u0 hI hS1 hW hu0 (i : Int) (by omega) (by omega) w hw (by omega)) (Nat.le_refl _) (Or.inl rfl) (fun r ok1 m3 hq => ?_)
          obtain ⟨rfl, rfl, em3⟩ := hq
          have hM0 : tM mem m3 b (evw w (tGo A c t i v).2 ++ evw w (bgE A c u0 (i : Int))) := by rw [← em3]; exact hM.e _
          have hW0 : CV A c m3 b u0 := by rw [← em3]; exact hW.ev hb5 _
          refine pw_if_eq 34 (by decide) dX0_tilt_27 (by omega) (fun c27 => ?_) (fun c27 => ?_)
          · skip
            refine pw_iconst dX0_tilt_34 ?_
            refine pw_istore dX0_tilt_35 (by decide) ?_
            refine pw_iconst dX0_tilt_37 ?_
            refine pw_istore dX0_tilt_38 (by decide) ?_
            have lp40 : ∀ (kz2 : Nat) (j g : Int) (u : Int → Int) (ev1 : pEv) (m2 : pM), 7 - j < (kz2 : Int) → (1 ≤ j ∧ j ≤ 7) → ((g = 1 ∧ (tBy A c t (i : Int)) ≠ 0 ∧ u (i : Int) = u0 (i : Int) + (tBy A c t (i : Int)) * (j - 1) ∧ tSt A c t (i : Int) u0 = ((faGo A c (i : Int) (tBy A c t (i : Int)) (8 - j).toNat u).1, ev1 ++ (faGo A c (i : Int) (tBy A c t (i : Int)) (8 - j).toNat u).2)) ∨ (g = 0 ∧ tSt A c t (i : Int) u0 = (u, ev1))) → (tM mem m2 b (evw w (tGo A c t i v).2 ++ evw w ev1)) → (CV A c m2 b u) → (pOkv A c u) → ((ev1.length : Int) ≤ 2 + 120 * (j - 1)) → PW mi_X0_tilt d n n (fun r ok' mem' => r = none ∧ ok = ok' ∧ tM mem mem' b (evw w (tGo A c t 16 v).2) ∧ CV A c mem' b (tGo A c t 16 v).1) 40 [(0, vr b), (1, vi t), (2, vi w), (3, vi (i : Int)), (4, vi (tBy A c t (i : Int))), (5, vi g), (6, vi j)] [] n ok m2 := by
              intro kz2
              induction kz2 with
              | zero =>
                intro j g u ev1 m2 hk2 hj hin hM2 hW2 hu hle
                exact absurd hk2 (by omega)
              | succ kz2 ih2 =>
                intro j g u ev1 m2 hk2 hj hin hM2 hW2 hu hle
                have g3 : m2 (b + 3) = mem (b + 3) := hM2.1 (b + 3) (by omega) (by omega) (by omega)
                have hS2 := hM2.s hb5 hS
                have ht2 := hM2.t
                rw [List.length_append] at ht2
                have hl3 := evw_len w ev1
                have hg01 : g = 0 ∨ g = 1 := by omega
                refine pw_iload dX0_tilt_40 rfl ?_
                refine pw_aload_n 0 rfl dX0_tilt_42 rfl ?_
                refine pw_gR 3 (b + 3) dX0_tilt_43 cOk0 (by assumption) (by decide) kw_234 (by decide) rfl ?_
                refine pw_iload_n 3 rfl dX0_tilt_46 rfl ?_
                refine pw_iaload dX0_tilt_47 (by assumption) (by omega) (by omega) (fun r47 => ?_)
                try simp (disch := omega) only [wr_s, wr_a, wr_k] at r47 ⊢
                rw [g3, e3] at r47 ⊢
                refine pw_icmp_ge 119 (by decide) dX0_tilt_48 (by omega) (by omega) (fun c48 => ?_) (fun c48 => ?_)
                · skip
                  refine pw_iinc dX0_tilt_119 rfl (by decide) ?_
                  refine pw_goto 2 (by decide) dX0_tilt_122 ?_
                  have hres : tSt A c t (i : Int) u0 = (u, ev1) := by
                    rcases hin with z | z
                    · rw [z.2.2.2]
                      have hend : faGo A c (i : Int) (tBy A c t (i : Int)) (8 - j).toNat u = (u, []) := by
                        by_cases y : (8 - j).toNat = 0
                        · rw [y]; rfl
                        · obtain ⟨f, ef⟩ : ∃ f, (8 - j).toNat = f + 1 := ⟨(8 - j).toNat - 1, by omega⟩
                          rw [ef, faGo_succ, if_neg]
                          have z3 := z.2.2.1
                          have hcs : j ≥ eSp A c (i : Int) := by omega
                          have hkn := tBy_kind z.2.1
                          have hsp : eSp A c (i : Int) = aSpan A c (i : Int) := by unfold eSp; rw [if_neg (by omega)]
                          have hu9 := hu0 (i : Int) (by omega) (by omega) (by omega)
                          rcases tBy_v A c t (i : Int) with y1 | y1 | y1
                          · exact absurd y1 z.2.1
                          · rw [y1] at z3 ⊢; omega
                          · rw [y1] at z3 ⊢; omega
                      rw [hend]; show (u, ev1 ++ []) = _; rw [List.append_nil]
                    · exact z.2
                  have hG2 : tGo A c t (i + 1) v = (u, (tGo A c t i v).2 ++ ev1) := by rw [tGo_succ, ← eu0, hres]
                  exact pw_locs _ rfl (ih (i + 1) m2 (by omega) (by omega) (by rw [hG2]; show tM mem m2 b (evw w ((tGo A c t i v).2 ++ ev1)); rw [evw_app]; exact hM2) (by rw [hG2]; exact hW2))
                · skip
                  refine pw_iload dX0_tilt_51 rfl ?_
                  refine pw_if_eq 119 (by decide) dX0_tilt_53 (by omega) (fun c53 => ?_) (fun c53 => ?_)
                  · skip
                    refine pw_iinc dX0_tilt_119 rfl (by decide) ?_
                    refine pw_goto 2 (by decide) dX0_tilt_122 ?_
                    have hres : tSt A c t (i : Int) u0 = (u, ev1) := by
                      rcases hin with z | z
                      · rw [z.2.2.2]
                        have hend : faGo A c (i : Int) (tBy A c t (i : Int)) (8 - j).toNat u = (u, []) := by
                          by_cases y : (8 - j).toNat = 0
                          · rw [y]; rfl
                          · obtain ⟨f, ef⟩ : ∃ f, (8 - j).toNat = f + 1 := ⟨(8 - j).toNat - 1, by omega⟩
                            rw [ef, faGo_succ, if_neg]
                            have z3 := z.2.2.1
                            have hcs : j ≥ eSp A c (i : Int) := by omega
                            have hkn := tBy_kind z.2.1
                            have hsp : eSp A c (i : Int) = aSpan A c (i : Int) := by unfold eSp; rw [if_neg (by omega)]
                            have hu9 := hu0 (i : Int) (by omega) (by omega) (by omega)
                            rcases tBy_v A c t (i : Int) with y1 | y1 | y1
                            · exact absurd y1 z.2.1
                            · rw [y1] at z3 ⊢; omega
                            · rw [y1] at z3 ⊢; omega
                        rw [hend]; show (u, ev1 ++ []) = _; rw [List.append_nil]
                      · exact z.2
                    have hG2 : tGo A c t (i + 1) v = (u, (tGo A c t i v).2 ++ ev1) := by rw [tGo_succ, ← eu0, hres]
                    exact pw_locs _ rfl (ih (i + 1) m2 (by omega) (by omega) (by rw [hG2]; show tM mem m2 b (evw w ((tGo A c t i v).2 ++ ev1)); rw [evw_app]; exact hM2) (by rw [hG2]; exact hW2))
                  · skip
                    have hg : g = 1 ∧ (tBy A c t (i : Int)) ≠ 0 ∧ u (i : Int) = u0 (i : Int) + (tBy A c t (i : Int)) * (j - 1) ∧ tSt A c t (i : Int) u0 = ((faGo A c (i : Int) (tBy A c t (i : Int)) (8 - j).toNat u).1, ev1 ++ (faGo A c (i : Int) (tBy A c t (i : Int)) (8 - j).toNat u).2) := by rcases hin with z | z; exact z; exact absurd z.1 c53
                    have hkn := tBy_kind hg.2.1
                    have hkn2 : aKind A c (i : Int) ≠ -1 := by omega
                    have hsp : eSp A c (i : Int) = aSpan A c (i : Int) := by unfold eSp; rw [if_neg hkn2]
                    have e4 : m2 (b + 4) (i : Int) = u (i : Int) := by rw [hW2 _ (by omega) (by omega)]; unfold eAv; rw [if_neg hkn2]
                    have hur := hu (i : Int) (by omega) (by omega) hkn2
                    obtain ⟨f, ef⟩ : ∃ f, (8 - j).toNat = f + 1 := ⟨(8 - j).toNat - 1, by omega⟩
                    have hst := hg.2.2.2
                    rw [ef, faGo_succ] at hst
                    refine pw_aload_n 0 rfl dX0_tilt_56 rfl ?_
                    refine pw_gR 4 (b + 4) dX0_tilt_57 cOk0 (by assumption) (by decide) kw_238 (by decide) rfl ?_
                    refine pw_iload_n 3 rfl dX0_tilt_60 rfl ?_
                    refine pw_iaload dX0_tilt_61 (by assumption) (by omega) (by omega) (fun r61 => ?_)
                    try simp (disch := omega) only [wr_s, wr_a, wr_k] at r61 ⊢
                    rw [e4] at r61 ⊢
                    refine pw_iload dX0_tilt_62 rfl ?_
                    refine pw_iadd dX0_tilt_64 ?_
                    refine pw_istore dX0_tilt_65 (by decide) ?_
                    refine pw_iload dX0_tilt_67 rfl ?_
                    refine pw_if_lt 97 (by decide) dX0_tilt_69 (by omega) (fun c69 => ?_) (fun c69 => ?_)
                    · skip
                      refine pw_iconst dX0_tilt_97 ?_
                      refine pw_istore dX0_tilt_98 (by decide) ?_
                      refine pw_iload dX0_tilt_100 rfl ?_
                      refine pw_if_eq 113 (by decide) dX0_tilt_102 (by omega) (fun c102 => ?_) (fun c102 => ?_)
                      · skip
                        refine pw_iinc dX0_tilt_113 rfl (by decide) ?_
                        refine pw_goto 40 (by decide) dX0_tilt_116 ?_
                        have hst2 : tSt A c t (i : Int) u0 = (u, ev1) := by rw [hst, if_neg (by omega)]; show (u, ev1 ++ []) = _; rw [List.append_nil]
                        exact pw_locs _ rfl (ih2 (j + 1) 0 u ev1 m2 (by omega) (by omega) (Or.inr ⟨rfl, hst2⟩) hM2 hW2 hu (by omega))
                      · skip
                        exfalso; omega
                    · skip
                      refine pw_iload dX0_tilt_72 rfl ?_
                      refine pw_aload_n 0 rfl dX0_tilt_74 rfl ?_
                      refine pw_gR 3 (b + 3) dX0_tilt_75 cOk0 (by assumption) (by decide) kw_234 (by decide) rfl ?_
                      refine pw_iload_n 3 rfl dX0_tilt_78 rfl ?_
                      refine pw_iaload dX0_tilt_79 (by assumption) (by omega) (by omega) (fun r79 => ?_)
                      try simp (disch := omega) only [wr_s, wr_a, wr_k] at r79 ⊢
                      rw [g3, e3, hsp] at r79 ⊢
                      refine pw_icmp_ge 97 (by decide) dX0_tilt_80 (by omega) (by omega) (fun c80 => ?_) (fun c80 => ?_)
                      · skip
                        refine pw_iconst dX0_tilt_97 ?_
                        refine pw_istore dX0_tilt_98 (by decide) ?_
                        refine pw_iload dX0_tilt_100 rfl ?_
                        refine pw_if_eq 113 (by decide) dX0_tilt_102 (by omega) (fun c102 => ?_) (fun c102 => ?_)
                        · skip
                          refine pw_iinc dX0_tilt_113 rfl (by decide) ?_
                          refine pw_goto 40 (by decide) dX0_tilt_116 ?_
                          have hst2 : tSt A c t (i : Int) u0 = (u, ev1) := by rw [hst, if_neg (by omega)]; show (u, ev1 ++ []) = _; rw [List.append_nil]
                          exact pw_locs _ rfl (ih2 (j + 1) 0 u ev1 m2 (by omega) (by omega) (Or.inr ⟨rfl, hst2⟩) hM2 hW2 hu (by omega))
                        · skip
                          exfalso; omega
                      · skip
                        refine pw_aload_n 0 rfl dX0_tilt_83 rfl ?_
                        refine pw_iload_n 3 rfl dX0_tilt_84 rfl ?_
                        refine pw_iload_n 2 rfl dX0_tilt_85 rfl ?_
                        refine pw_callV (d' := d - 1) (As := [_, _]) (ci := 0) dX0_tilt_86 ok_X0_firstThatFails kw_666 rfl rfl (Of.o (by assumption)) (by omega) rfl (Nat.le_of_ble_eq_true rfl) (h_ftf (d - 1) (by omega) n ok m2 hN b hC A c u hI hS2 hW2 hu (i : Int) (by omega) w hw (by omega)) (Nat.le_refl _) (Or.inl rfl) (fun r ok1 m4 hq => ?_)
                        obtain ⟨rfl, rfl, em4⟩ := hq
                        have hM4 : tM mem m4 b (evw w (tGo A c t i v).2 ++ evw w (ev1 ++ (fRes A c u (i : Int)).2)) := by rw [← em4, evw_app, ← List.append_assoc]; exact hM2.e _
                        have hW4 : CV A c m4 b u := by rw [← em4]; exact hW2.ev hb5 _
                        have hfl := fRes_len (m := A) (c := c) u (i : Int) hI.2.2.1.1
                        have hfr := fRes_ran (m := A) (c := c) u (i : Int) hI.2.2.1.1
                        refine pw_iconst dX0_tilt_89 ?_
                        refine pw_icmp_ne 97 (by decide) dX0_tilt_90 (by have e0 : aNc A c = A 94 c := rfl; have := hI.2.2.1.1; omega) (by omega) (fun c90 => ?_) (fun c90 => ?_)
                        · skip
                          refine pw_iconst dX0_tilt_97 ?_
                          refine pw_istore dX0_tilt_98 (by decide) ?_
                          refine pw_iload dX0_tilt_100 rfl ?_
                          refine pw_if_eq 113 (by decide) dX0_tilt_102 (by omega) (fun c102 => ?_) (fun c102 => ?_)
                          · skip
                            refine pw_iinc dX0_tilt_113 rfl (by decide) ?_
                            refine pw_goto 40 (by decide) dX0_tilt_116 ?_
                            have hst2 : tSt A c t (i : Int) u0 = (u, ev1 ++ (fRes A c u (i : Int)).2) := by rw [hst, if_pos (by omega), if_neg c90]
                            exact pw_locs _ rfl (ih2 (j + 1) 0 u (ev1 ++ (fRes A c u (i : Int)).2) m4 (by omega) (by omega) (Or.inr ⟨rfl, hst2⟩) hM4 hW4 hu (by rw [List.length_append]; omega))
                          · skip
                            exfalso; omega
                        · skip
                          refine pw_iconst dX0_tilt_93 ?_
                          refine pw_goto 98 (by decide) dX0_tilt_94 ?_
                          refine pw_istore dX0_tilt_98 (by decide) ?_
                          refine pw_iload dX0_tilt_100 rfl ?_
                          refine pw_if_eq 113 (by decide) dX0_tilt_102 (by omega) (fun c102 => ?_) (fun c102 => ?_)
                          · skip
                            exfalso; omega
                          · skip
                            refine pw_aload_n 0 rfl dX0_tilt_105 rfl ?_
                            refine pw_gR 4 (b + 4) dX0_tilt_106 cOk0 (by assumption) (by decide) kw_238 (by decide) rfl ?_
                            refine pw_iload_n 3 rfl dX0_tilt_109 rfl ?_
                            refine pw_iload dX0_tilt_110 rfl ?_
                            refine pw_iastore dX0_tilt_112 (by assumption) (by omega) (by omega) (by omega) ?_
                            refine pw_iinc dX0_tilt_113 rfl (by decide) ?_
                            refine pw_goto 40 (by decide) dX0_tilt_116 ?_
                            have hst2 : tSt A c t (i : Int) u0 = ((faGo A c (i : Int) (tBy A c t (i : Int)) (8 - (j + 1)).toNat (vUp u (i : Int) (u (i : Int) + (tBy A c t (i : Int))))).1, (ev1 ++ (fRes A c u (i : Int)).2) ++ (faGo A c (i : Int) (tBy A c t (i : Int)) (8 - (j + 1)).toNat (vUp u (i : Int) (u (i : Int) + (tBy A c t (i : Int))))).2) := by
                              rw [hst, if_pos (by omega), if_pos (by omega), show (8 - (j + 1)).toNat = f by omega, List.append_assoc]
                            have hup : pOkv A c (vUp u (i : Int) (u (i : Int) + (tBy A c t (i : Int)))) := fun q q1 q2 q3 => by
                              unfold vUp
                              by_cases e : q = (i : Int)
                              · rw [if_pos e, e]; omega
                              · rw [if_neg e]; exact hu q q1 q2 q3
                            exact pw_locs _ rfl (ih2 (j + 1) 1 (vUp u (i : Int) (u (i : Int) + (tBy A c t (i : Int)))) (ev1 ++ (fRes A c u (i : Int)).2) _ (by omega) (by omega) (Or.inl ⟨rfl, hg.2.1, by show (if _ then _ else _) = _; rw [if_pos rfl, hg.2.2.1, show (j + 1 - 1 : Int) = (j - 1) + 1 by omega, Int.mul_add, Int.mul_one, Int.add_assoc], hst2⟩) (hM4.w hb5 _ _) (hW4.up hkn2) hup (by rw [List.length_append]; omega))
            exact pw_locs _ rfl (lp40 7 1 0 u0 (bgE A c u0 (i : Int)) m3 (by omega) (by omega) (Or.inr ⟨rfl, by rw [hts, if_pos c27]⟩) hM0 hW0 hu0 (by omega))
          · skip
            refine pw_iconst dX0_tilt_30 ?_
            refine pw_goto 35 (by decide) dX0_tilt_31 ?_
            refine pw_istore dX0_tilt_35 (by decide) ?_
            refine pw_iconst dX0_tilt_37 ?_
            refine pw_istore dX0_tilt_38 (by decide) ?_
            have lp40 : ∀ (kz2 : Nat) (j g : Int) (u : Int → Int) (ev1 : pEv) (m2 : pM), 7 - j < (kz2 : Int) → (1 ≤ j ∧ j ≤ 7) → ((g = 1 ∧ (tBy A c t (i : Int)) ≠ 0 ∧ u (i : Int) = u0 (i : Int) + (tBy A c t (i : Int)) * (j - 1) ∧ tSt A c t (i : Int) u0 = ((faGo A c (i : Int) (tBy A c t (i : Int)) (8 - j).toNat u).1, ev1 ++ (faGo A c (i : Int) (tBy A c t (i : Int)) (8 - j).toNat u).2)) ∨ (g = 0 ∧ tSt A c t (i : Int) u0 = (u, ev1))) → (tM mem m2 b (evw w (tGo A c t i v).2 ++ evw w ev1)) → (CV A c m2 b u) → (pOkv A c u) → ((ev1.length : Int) ≤ 2 + 120 * (j - 1)) → PW mi_X0_tilt d n n (fun r ok' mem' => r = none ∧ ok = ok' ∧ tM mem mem' b (evw w (tGo A c t 16 v).2) ∧ CV A c mem' b (tGo A c t 16 v).1) 40 [(0, vr b), (1, vi t), (2, vi w), (3, vi (i : Int)), (4, vi (tBy A c t (i : Int))), (5, vi g), (6, vi j)] [] n ok m2 := by
              intro kz2
              induction kz2 with
              | zero =>
                intro j g u ev1 m2 hk2 hj hin hM2 hW2 hu hle
                exact absurd hk2 (by omega)
              | succ kz2 ih2 =>
                intro j g u ev1 m2 hk2 hj hin hM2 hW2 hu hle
                have g3 : m2 (b + 3) = mem (b + 3) := hM2.1 (b + 3) (by omega) (by omega) (by omega)
                have hS2 := hM2.s hb5 hS
                have ht2 := hM2.t
                rw [List.length_append] at ht2
                have hl3 := evw_len w ev1
                have hg01 : g = 0 ∨ g = 1 := by omega
                refine pw_iload dX0_tilt_40 rfl ?_
                refine pw_aload_n 0 rfl dX0_tilt_42 rfl ?_
                refine pw_gR 3 (b + 3) dX0_tilt_43 cOk0 (by assumption) (by decide) kw_234 (by decide) rfl ?_
                refine pw_iload_n 3 rfl dX0_tilt_46 rfl ?_
                refine pw_iaload dX0_tilt_47 (by assumption) (by omega) (by omega) (fun r47 => ?_)
                try simp (disch := omega) only [wr_s, wr_a, wr_k] at r47 ⊢
                rw [g3, e3] at r47 ⊢
                refine pw_icmp_ge 119 (by decide) dX0_tilt_48 (by omega) (by omega) (fun c48 => ?_) (fun c48 => ?_)
                · skip
                  refine pw_iinc dX0_tilt_119 rfl (by decide) ?_
                  refine pw_goto 2 (by decide) dX0_tilt_122 ?_
                  have hres : tSt A c t (i : Int) u0 = (u, ev1) := by
                    rcases hin with z | z
                    · rw [z.2.2.2]
                      have hend : faGo A c (i : Int) (tBy A c t (i : Int)) (8 - j).toNat u = (u, []) := by
                        by_cases y : (8 - j).toNat = 0
                        · rw [y]; rfl
                        · obtain ⟨f, ef⟩ : ∃ f, (8 - j).toNat = f + 1 := ⟨(8 - j).toNat - 1, by omega⟩
                          rw [ef, faGo_succ, if_neg]
                          have z3 := z.2.2.1
                          have hcs : j ≥ eSp A c (i : Int) := by omega
                          have hkn := tBy_kind z.2.1
                          have hsp : eSp A c (i : Int) = aSpan A c (i : Int) := by unfold eSp; rw [if_neg (by omega)]
                          have hu9 := hu0 (i : Int) (by omega) (by omega) (by omega)
                          rcases tBy_v A c t (i : Int) with y1 | y1 | y1
                          · exact absurd y1 z.2.1
                          · rw [y1] at z3 ⊢; omega
                          · rw [y1] at z3 ⊢; omega
                      rw [hend]; show (u, ev1 ++ []) = _; rw [List.append_nil]
                    · exact z.2
                  have hG2 : tGo A c t (i + 1) v = (u, (tGo A c t i v).2 ++ ev1) := by rw [tGo_succ, ← eu0, hres]
                  exact pw_locs _ rfl (ih (i + 1) m2 (by omega) (by omega) (by rw [hG2]; show tM mem m2 b (evw w ((tGo A c t i v).2 ++ ev1)); rw [evw_app]; exact hM2) (by rw [hG2]; exact hW2))
                · skip
                  refine pw_iload dX0_tilt_51 rfl ?_
                  refine pw_if_eq 119 (by decide) dX0_tilt_53 (by omega) (fun c53 => ?_) (fun c53 => ?_)
                  · skip
                    refine pw_iinc dX0_tilt_119 rfl (by decide) ?_
                    refine pw_goto 2 (by decide) dX0_tilt_122 ?_
                    have hres : tSt A c t (i : Int) u0 = (u, ev1) := by
                      rcases hin with z | z
                      · rw [z.2.2.2]
                        have hend : faGo A c (i : Int) (tBy A c t (i : Int)) (8 - j).toNat u = (u, []) := by
                          by_cases y : (8 - j).toNat = 0
                          · rw [y]; rfl
                          · obtain ⟨f, ef⟩ : ∃ f, (8 - j).toNat = f + 1 := ⟨(8 - j).toNat - 1, by omega⟩
                            rw [ef, faGo_succ, if_neg]
                            have z3 := z.2.2.1
                            have hcs : j ≥ eSp A c (i : Int) := by omega
                            have hkn := tBy_kind z.2.1
                            have hsp : eSp A c (i : Int) = aSpan A c (i : Int) := by unfold eSp; rw [if_neg (by omega)]
                            have hu9 := hu0 (i : Int) (by omega) (by omega) (by omega)
                            rcases tBy_v A c t (i : Int) with y1 | y1 | y1
                            · exact absurd y1 z.2.1
                            · rw [y1] at z3 ⊢; omega
                            · rw [y1] at z3 ⊢; omega
                        rw [hend]; show (u, ev1 ++ []) = _; rw [List.append_nil]
                      · exact z.2
                    have hG2 : tGo A c t (i + 1) v = (u, (tGo A c t i v).2 ++ ev1) := by rw [tGo_succ, ← eu0, hres]
                    exact pw_locs _ rfl (ih (i + 1) m2 (by omega) (by omega) (by rw [hG2]; show tM mem m2 b (evw w ((tGo A c t i v).2 ++ ev1)); rw [evw_app]; exact hM2) (by rw [hG2]; exact hW2))
                  · skip
                    have hg : g = 1 ∧ (tBy A c t (i : Int)) ≠ 0 ∧ u (i : Int) = u0 (i : Int) + (tBy A c t (i : Int)) * (j - 1) ∧ tSt A c t (i : Int) u0 = ((faGo A c (i : Int) (tBy A c t (i : Int)) (8 - j).toNat u).1, ev1 ++ (faGo A c (i : Int) (tBy A c t (i : Int)) (8 - j).toNat u).2) := by rcases hin with z | z; exact z; exact absurd z.1 c53
                    have hkn := tBy_kind hg.2.1
                    have hkn2 : aKind A c (i : Int) ≠ -1 := by omega
                    have hsp : eSp A c (i : Int) = aSpan A c (i : Int) := by unfold eSp; rw [if_neg hkn2]
                    have e4 : m2 (b + 4) (i : Int) = u (i : Int) := by rw [hW2 _ (by omega) (by omega)]; unfold eAv; rw [if_neg hkn2]
                    have hur := hu (i : Int) (by omega) (by omega) hkn2
                    obtain ⟨f, ef⟩ : ∃ f, (8 - j).toNat = f + 1 := ⟨(8 - j).toNat - 1, by omega⟩
                    have hst := hg.2.2.2
                    rw [ef, faGo_succ] at hst
                    refine pw_aload_n 0 rfl dX0_tilt_56 rfl ?_
                    refine pw_gR 4 (b + 4) dX0_tilt_57 cOk0 (by assumption) (by decide) kw_238 (by decide) rfl ?_
                    refine pw_iload_n 3 rfl dX0_tilt_60 rfl ?_
                    refine pw_iaload dX0_tilt_61 (by assumption) (by omega) (by omega) (fun r61 => ?_)
                    try simp (disch := omega) only [wr_s, wr_a, wr_k] at r61 ⊢
                    rw [e4] at r61 ⊢
                    refine pw_iload dX0_tilt_62 rfl ?_
                    refine pw_iadd dX0_tilt_64 ?_
                    refine pw_istore dX0_tilt_65 (by decide) ?_
                    refine pw_iload dX0_tilt_67 rfl ?_
                    refine pw_if_lt 97 (by decide) dX0_tilt_69 (by omega) (fun c69 => ?_) (fun c69 => ?_)
                    · skip
                      refine pw_iconst dX0_tilt_97 ?_
                      refine pw_istore dX0_tilt_98 (by decide) ?_
                      refine pw_iload dX0_tilt_100 rfl ?_
                      refine pw_if_eq 113 (by decide) dX0_tilt_102 (by omega) (fun c102 => ?_) (fun c102 => ?_)
                      · skip
                        refine pw_iinc dX0_tilt_113 rfl (by decide) ?_
                        refine pw_goto 40 (by decide) dX0_tilt_116 ?_
                        have hst2 : tSt A c t (i : Int) u0 = (u, ev1) := by rw [hst, if_neg (by omega)]; show (u, ev1 ++ []) = _; rw [List.append_nil]
                        exact pw_locs _ rfl (ih2 (j + 1) 0 u ev1 m2 (by omega) (by omega) (Or.inr ⟨rfl, hst2⟩) hM2 hW2 hu (by omega))
                      · skip
                        exfalso; omega
                    · skip
                      refine pw_iload dX0_tilt_72 rfl ?_
                      refine pw_aload_n 0 rfl dX0_tilt_74 rfl ?_
                      refine pw_gR 3 (b + 3) dX0_tilt_75 cOk0 (by assumption) (by decide) kw_234 (by decide) rfl ?_
                      refine pw_iload_n 3 rfl dX0_tilt_78 rfl ?_
                      refine pw_iaload dX0_tilt_79 (by assumption) (by omega) (by omega) (fun r79 => ?_)
                      try simp (disch := omega) only [wr_s, wr_a, wr_k] at r79 ⊢
                      rw [g3, e3, hsp] at r79 ⊢
                      refine pw_icmp_ge 97 (by decide) dX0_tilt_80 (by omega) (by omega) (fun c80 => ?_) (fun c80 => ?_)
                      · skip
                        refine pw_iconst dX0_tilt_97 ?_
                        refine pw_istore dX0_tilt_98 (by decide) ?_
                        refine pw_iload dX0_tilt_100 rfl ?_
                        refine pw_if_eq 113 (by decide) dX0_tilt_102 (by omega) (fun c102 => ?_) (fun c102 => ?_)
                        · skip
                          refine pw_iinc dX0_tilt_113 rfl (by decide) ?_
                          refine pw_goto 40 (by decide) dX0_tilt_116 ?_
                          have hst2 : tSt A c t (i : Int) u0 = (u, ev1) := by rw [hst, if_neg (by omega)]; show (u, ev1 ++ []) = _; rw [List.append_nil]
                          exact pw_locs _ rfl (ih2 (j + 1) 0 u ev1 m2 (by omega) (by omega) (Or.inr ⟨rfl, hst2⟩) hM2 hW2 hu (by omega))
                        · skip
                          exfalso; omega
                      · skip
                        refine pw_aload_n 0 rfl dX0_tilt_83 rfl ?_
                        refine pw_iload_n 3 rfl dX0_tilt_84 rfl ?_
                        refine pw_iload_n 2 rfl dX0_tilt_85 rfl ?_
                        refine pw_callV (d' := d - 1) (As := [_, _]) (ci := 0) dX0_tilt_86 ok_X0_firstThatFails kw_666 rfl rfl (Of.o (by assumption)) (by omega) rfl (Nat.le_of_ble_eq_true rfl) (h_ftf (d - 1) (by omega) n ok m2 hN b hC A c u hI hS2 hW2 hu (i : Int) (by omega) w hw (by omega)) (Nat.le_refl _) (Or.inl rfl) (fun r ok1 m4 hq => ?_)
                        obtain ⟨rfl, rfl, em4⟩ := hq
                        have hM4 : tM mem m4 b (evw w (tGo A c t i v).2 ++ evw w (ev1 ++ (fRes A c u (i : Int)).2)) := by rw [← em4, evw_app, ← List.append_assoc]; exact hM2.e _
                        have hW4 : CV A c m4 b u := by rw [← em4]; exact hW2.ev hb5 _
                        have hfl := fRes_len (m := A) (c := c) u (i : Int) hI.2.2.1.1
                        have hfr := fRes_ran (m := A) (c := c) u (i : Int) hI.2.2.1.1
                        refine pw_iconst dX0_tilt_89 ?_
                        refine pw_icmp_ne 97 (by decide) dX0_tilt_90 (by have e0 : aNc A c = A 94 c := rfl; have := hI.2.2.1.1; omega) (by omega) (fun c90 => ?_) (fun c90 => ?_)
                        · skip
                          refine pw_iconst dX0_tilt_97 ?_
                          refine pw_istore dX0_tilt_98 (by decide) ?_
                          refine pw_iload dX0_tilt_100 rfl ?_
                          refine pw_if_eq 113 (by decide) dX0_tilt_102 (by omega) (fun c102 => ?_) (fun c102 => ?_)
                          · skip
                            refine pw_iinc dX0_tilt_113 rfl (by decide) ?_
                            refine pw_goto 40 (by decide) dX0_tilt_116 ?_
                            have hst2 : tSt A c t (i : Int) u0 = (u, ev1 ++ (fRes A c u (i : Int)).2) := by rw [hst, if_pos (by omega), if_neg c90]
                            exact pw_locs _ rfl (ih2 (j + 1) 0 u (ev1 ++ (fRes A c u (i : Int)).2) m4 (by omega) (by omega) (Or.inr ⟨rfl, hst2⟩) hM4 hW4 hu (by rw [List.length_append]; omega))
                          · skip
                            exfalso; omega
                        · skip
                          refine pw_iconst dX0_tilt_93 ?_
                          refine pw_goto 98 (by decide) dX0_tilt_94 ?_
                          refine pw_istore dX0_tilt_98 (by decide) ?_
                          refine pw_iload dX0_tilt_100 rfl ?_
                          refine pw_if_eq 113 (by decide) dX0_tilt_102 (by omega) (fun c102 => ?_) (fun c102 => ?_)
                          · skip
                            exfalso; omega
                          · skip
                            refine pw_aload_n 0 rfl dX0_tilt_105 rfl ?_
                            refine pw_gR 4 (b + 4) dX0_tilt_106 cOk0 (by assumption) (by decide) kw_238 (by decide) rfl ?_
                            refine pw_iload_n 3 rfl dX0_tilt_109 rfl ?_
                            refine pw_iload dX0_tilt_110 rfl ?_
                            refine pw_iastore dX0_tilt_112 (by assumption) (by omega) (by omega) (by omega) ?_
                            refine pw_iinc dX0_tilt_113 rfl (by decide) ?_
                            refine pw_goto 40 (by decide) dX0_tilt_116 ?_
                            have hst2 : tSt A c t (i : Int) u0 = ((faGo A c (i : Int) (tBy A c t (i : Int)) (8 - (j + 1)).toNat (vUp u (i : Int) (u (i : Int) + (tBy A c t (i : Int))))).1, (ev1 ++ (fRes A c u (i : Int)).2) ++ (faGo A c (i : Int) (tBy A c t (i : Int)) (8 - (j + 1)).toNat (vUp u (i : Int) (u (i : Int) + (tBy A c t (i : Int))))).2) := by
                              rw [hst, if_pos (by omega), if_pos (by omega), show (8 - (j + 1)).toNat = f by omega, List.append_assoc]
                            have hup : pOkv A c (vUp u (i : Int) (u (i : Int) + (tBy A c t (i : Int)))) := fun q q1 q2 q3 => by
                              unfold vUp
                              by_cases e : q = (i : Int)
                              · rw [if_pos e, e]; omega
                              · rw [if_neg e]; exact hu q q1 q2 q3
                            exact pw_locs _ rfl (ih2 (j + 1) 1 (vUp u (i : Int) (u (i : Int) + (tBy A c t (i : Int)))) (ev1 ++ (fRes A c u (i : Int)).2) _ (by omega) (by omega) (Or.inl ⟨rfl, hg.2.1, by show (if _ then _ else _) = _; rw [if_pos rfl, hg.2.2.1, show (j + 1 - 1 : Int) = (j - 1) + 1 by omega, Int.mul_add, Int.mul_one, Int.add_assoc], hst2⟩) (hM4.w hb5 _ _) (hW4.up hkn2) hup (by rw [List.length_append]; omega))
            exact pw_locs _ rfl (lp40 7 1 1 u0 (bgE A c u0 (i : Int)) m3 (by omega) (by omega) (Or.inl ⟨rfl, c18, by omega, by rw [hts, if_neg c27]; rfl⟩) hM0 hW0 hu0 (by omega))
  exact pw_locs _ rfl (lp2 17 0 mem (by omega) (by omega) (by show tM mem mem b (evw w []); unfold evw; rw [show (if w = 0 then [] else []) = ([] : pEv) by split <;> rfl]; exact tM.rf _ _) hV)
