/-! ===== places v of a chest: what depends on them ===== -/
theorem hTel_v {m : pM} {c : Int} {v w : Int → Int} (hs : sOk m c) (h : ∀ s : Int, 0 ≤ s → s ≤ 15 → w s = v s) {k : Int} (h1 : 0 ≤ k) (h2 : k < aNc m c) : hTel m c w k = hTel m c v k := by
  unfold hTel
  have := (hs.2.1 k h1 h2).2.1
  rw [h _ this.1 this.2]
theorem hMet_v {m : pM} {c : Int} {v w : Int → Int} (hs : sOk m c) (h : ∀ s : Int, 0 ≤ s → s ≤ 15 → w s = v s) {k : Int} (h1 : 0 ≤ k) (h2 : k < aNc m c) : hMet m c w k = hMet m c v k := by
  unfold hMet; rw [hTel_v hs h h1 h2]
theorem hIs_v {m : pM} {c : Int} {v w : Int → Int} (hs : sOk m c) (h : ∀ s : Int, 0 ≤ s → s ≤ 15 → w s = v s) {k : Int} (h1 : 0 ≤ k) (h2 : k < aNc m c) : hIs m c w k = hIs m c v k := by
  unfold hIs; rw [hTel_v hs h h1 h2, hMet_v hs h h1 h2]
theorem fGo_v {m : pM} {c : Int} {v w : Int → Int} (hs : sOk m c) (h : ∀ s : Int, 0 ≤ s → s ≤ 15 → w s = v s) (seat : Int) (f : Nat) (k : Int) (h1 : 0 ≤ k) (h2 : k + f ≤ aNc m c) : fGo m c w seat f k = fGo m c v seat f k := by
  induction f generalizing k with
  | zero => rfl
  | succ f ih =>
    rw [fGo_succ, fGo_succ, ih (k + 1) (by omega) (by omega)]
    have e1 := hIs_v hs h (k := k) h1 (by omega)
    have e2 := hMet_v hs h (k := k) h1 (by omega)
    have e3 : cEv m c w k = cEv m c v k := by unfold cEv; rw [e2]
    rw [e1, e3]
theorem fRes_v {m : pM} {c : Int} {v w : Int → Int} (hs : sOk m c) (h : ∀ s : Int, 0 ≤ s → s ≤ 15 → w s = v s) (seat : Int) : fRes m c w seat = fRes m c v seat := by
  unfold fRes
  have := hs.1
  exact fGo_v hs h seat _ 0 (Int.le_refl _) (by omega)
theorem oRes_v {m : pM} {c : Int} {v w : Int → Int} (hs : sOk m c) (h : ∀ s : Int, 0 ≤ s → s ≤ 15 → w s = v s) : oRes m c w = oRes m c v := by unfold oRes; rw [fRes_v hs h]
theorem oEv_v {m : pM} {c : Int} {v w : Int → Int} (hs : sOk m c) (h : ∀ s : Int, 0 ≤ s → s ≤ 15 → w s = v s) : oEv m c w = oEv m c v := by unfold oEv; rw [fRes_v hs h]
theorem bRes_v {m : pM} {c : Int} {v w : Int → Int} (hs : sOk m c) (h : ∀ s : Int, 0 ≤ s → s ≤ 15 → w s = v s) {mv : Int} (h1 : 0 ≤ mv) : bRes m c w mv = bRes m c v mv := by
  unfold bRes
  by_cases e : 32 ≤ mv
  · rw [if_pos e, if_pos e]
  · have e2 : bTo w mv = bTo v mv := by unfold bTo; rw [h (mv / 2) (by omega) (by omega)]
    rw [if_neg e, if_neg e, e2, fRes_v hs h]
theorem iRes_v {m : pM} {c : Int} {v w : Int → Int} (hs : sOk m c) (h : ∀ s : Int, 0 ≤ s → s ≤ 15 → w s = v s) {mv : Int} (h1 : 0 ≤ mv) : iRes m c w mv = iRes m c v mv := by unfold iRes; rw [bRes_v hs h h1]
theorem iEv_v {m : pM} {c : Int} {v w : Int → Int} (hs : sOk m c) (h : ∀ s : Int, 0 ≤ s → s ≤ 15 → w s = v s) {mv : Int} (h1 : 0 ≤ mv) : iEv m c w mv = iEv m c v mv := by unfold iEv; rw [bRes_v hs h h1]
/-! memory that holds places v -/
theorem rW_off {m m1 : pM} (h : ∀ a, a ≠ 92 → m1 a = m a) (x : Int) : (∀ a, a ≠ 92 → rWrites m1 x a = rWrites m x a) ∧ rWrites m1 x 92 = m1 92 := by
  have e1 := h 88 (by omega)
  refine ⟨fun a ha => ?_, (nSame.w m1 x).1 92 (by omega) (by omega)⟩
  unfold rWrites
  rw [e1]
  split
  · split
    · funext j; unfold wr; rw [h a ha]
    · funext j; unfold wr; rw [h a ha]
  · exact h a ha
theorem rN_off {m m1 : pM} (h : ∀ a, a ≠ 92 → m1 a = m a) (x : Int) : (∀ a, a ≠ 92 → rNotes m1 x a = rNotes m x a) ∧ rNotes m1 x 92 = m1 92 := by
  have e1 := h 88 (by omega)
  refine ⟨fun a ha => ?_, (nSame.n m1 x).1 92 (by omega) (by omega)⟩
  unfold rNotes
  rw [e1]
  split
  · funext j; unfold wr; rw [h a ha]
  · exact h a ha
theorem rEv_off {m m1 : pM} (h : ∀ a, a ≠ 92 → m1 a = m a) (l : pEv) : (∀ a, a ≠ 92 → rEv m1 l a = rEv m l a) ∧ rEv m1 l 92 = m1 92 := by
  refine ⟨?_, (nSame.e m1 l).1 92 (by omega) (by omega)⟩
  induction l generalizing m m1 with
  | nil => exact h
  | cons q l ih =>
    obtain ⟨t, x⟩ := q
    cases t
    · exact ih (rN_off h x).1
    · exact ih (rW_off h x).1
theorem wr_off {m m1 : pM} (h : ∀ a, a ≠ 92 → m1 a = m a) (k z : Int) : ∀ a, a ≠ 92 → wr m1 88 k z a = wr m 88 k z a := fun a ha => by funext j; unfold wr; rw [h a ha]
theorem vMem.s {m m1 : pM} {c : Int} {v : Int → Int} {ev : pEv} {z : Int} (h : vMem m m1 c v ev z) : sSame m m1 := fun a h1 h2 h3 => by
  rw [h.1 a h3, wr_a _ _ _ (by omega)]
  exact (nSame.e m ev).1 a (by omega) (by omega)
theorem vMem.tr {m m1 : pM} {c : Int} {v : Int → Int} {ev : pEv} {z : Int} (h : vMem m m1 c v ev z) (h0 : 0 ≤ m 88 19) : 0 ≤ m1 88 19 ∧ m1 88 19 ≤ m 88 19 + ev.length := by
  rw [h.1 88 (by omega), wr_k _ _ _ _ (by omega)]
  exact rEv_tr m ev h0
theorem vMem.e {m m1 : pM} {c : Int} {v : Int → Int} {ev : pEv} {z : Int} (h : vMem m m1 c v ev z) (l : pEv) (y : Int) : vMem m (wr (rEv m1 l) 88 23 y) c v (ev ++ l) y := by
  have h2 := rEv_off h.1 l
  refine ⟨fun a ha => ?_, fun s q1 q2 => ?_, fun j hj => ?_⟩
  · rw [wr_off h2.1 23 y a ha, rEv_met, wr_wr, rEv_app]
  · rw [wr_a _ _ _ (by omega), h2.2]; exact h.2.1 s q1 q2
  · rw [wr_a _ _ _ (by omega), h2.2]; exact h.2.2 j hj
theorem vMem.w {m m1 : pM} {c : Int} {v : Int → Int} {ev : pEv} {z : Int} (h : vMem m m1 c v ev z) (x : Int) : vMem m (rWrites m1 x) c v (ev ++ [(true, x)]) z := by
  have h2 := rW_off h.1 x
  refine ⟨fun a ha => ?_, fun s q1 q2 => ?_, fun j hj => ?_⟩
  · rw [h2.1 a ha, rW_met, rEv_app]; rfl
  · rw [h2.2]; exact h.2.1 s q1 q2
  · rw [h2.2]; exact h.2.2 j hj
theorem vMem.put {m m1 : pM} {c : Int} {v : Int → Int} {ev : pEv} {z : Int} (h : vMem m m1 c v ev z) {s : Int} (x : Int) (h1 : 0 ≤ s) (h2 : s ≤ 15) : vMem m (wr m1 92 (16 * c + s) x) c (vUp v s x) ev z := by
  refine ⟨fun a ha => by rw [wr_a _ _ _ ha]; exact h.1 a ha, fun j q1 q2 => ?_, fun j hj => by rw [wr_k _ _ _ _ (by omega)]; exact h.2.2 j hj⟩
  unfold vUp
  by_cases e : j = s
  · subst e; rw [wr_s, if_pos rfl]
  · rw [wr_k _ _ _ _ (by omega), if_neg e]; exact h.2.1 j q1 q2
theorem vMem.rf (m : pM) (c : Int) : vMem m m c (aAt m c) [] (m 88 23) := ⟨fun a ha => by show m a = wr m 88 23 (m 88 23) a; rw [wr_id], fun s _ _ => rfl, fun _ _ => rfl⟩
theorem vMem.at {m m1 : pM} {c : Int} {v : Int → Int} {ev : pEv} {z : Int} (h : vMem m m1 c v ev z) : ∀ s : Int, 0 ≤ s → s ≤ 15 → aAt m1 c s = v s := h.2.1
theorem pOkv_v {m : pM} {c : Int} {v w : Int → Int} (h : ∀ s : Int, 0 ≤ s → s ≤ 15 → w s = v s) (hv : pOkv m c v) : pOkv m c w := fun s h1 h2 h3 => by rw [h s h1 h2]; exact hv s h1 h2 h3
theorem pOkv_up {m : pM} {c : Int} {v : Int → Int} (hv : pOkv m c v) {s x : Int} (hx : 0 ≤ x ∧ x < aSpan m c s) : pOkv m c (vUp v s x) := fun j h1 h2 h3 => by
  unfold vUp
  by_cases e : j = s
  · subst e; rw [if_pos rfl]; exact hx
  · rw [if_neg e]; exact hv j h1 h2 h3
