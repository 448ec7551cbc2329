/-! ===== places: more that depends on them; memory behind several steps ===== -/
theorem rW_wr (m : pM) {a : Nat} {k : Int} (x y : Int) (ha : a ≠ 103) (hk : a = 88 → k ≠ 1 ∧ k ≠ 2 ∧ k ≠ 3 ∧ k ≠ 19) : rWrites (wr m a k y) x = wr (rWrites m x) a k y := by
  have e1 : wr m a k y 88 3 = m 88 3 := by unfold wr; rw [if_neg (fun z => (hk z.1.symm).2.2.1 z.2.symm)]
  have e2 : wr m a k y 88 19 = m 88 19 := by unfold wr; rw [if_neg (fun z => (hk z.1.symm).2.2.2 z.2.symm)]
  unfold rWrites
  rw [e1, e2]
  split
  · split
    · funext b j; unfold wr
      by_cases q : b = a ∧ j = k
      · rw [if_pos q, if_pos q]
        by_cases r : b = 88 ∧ j = 19
        · exact absurd (q.2.symm.trans r.2) (hk (q.1.symm.trans r.1)).2.2.2
        · rw [if_neg r]
      · rw [if_neg q, if_neg q]
    · funext b j; unfold wr
      by_cases q : b = a ∧ j = k
      · rw [if_pos q, if_pos q]
        by_cases r : b = 88 ∧ j = 19
        · exact absurd (q.2.symm.trans r.2) (hk (q.1.symm.trans r.1)).2.2.2
        · rw [if_neg r, if_neg (fun z => ha (q.1.symm.trans z.1))]
      · rw [if_neg q, if_neg q]
  · rfl
theorem rN_wr (m : pM) {a : Nat} {k : Int} (x y : Int) (hk : a = 88 → k ≠ 1 ∧ k ≠ 2 ∧ k ≠ 3 ∧ k ≠ 19) : rNotes (wr m a k y) x = wr (rNotes m x) a k y := by
  have e1 : wr m a k y 88 3 = m 88 3 := by unfold wr; rw [if_neg (fun z => (hk z.1.symm).2.2.1 z.2.symm)]
  have e2 : wr m a k y 88 1 = m 88 1 := by unfold wr; rw [if_neg (fun z => (hk z.1.symm).1 z.2.symm)]
  unfold rNotes
  rw [e1, e2]
  split
  · funext b j; unfold wr
    by_cases q : b = a ∧ j = k
    · rw [if_pos q, if_pos q, if_neg (fun z => (hk (q.1.symm.trans z.1)).2.1 (q.2.symm.trans z.2)), if_neg (fun z => (hk (q.1.symm.trans z.1)).1 (q.2.symm.trans z.2))]
    · rw [if_neg q, if_neg q]
  · rfl
theorem rEv_wr (m : pM) {a : Nat} {k : Int} (y : Int) (ha : a ≠ 103) (hk : a = 88 → k ≠ 1 ∧ k ≠ 2 ∧ k ≠ 3 ∧ k ≠ 19) (l : pEv) : rEv (wr m a k y) l = wr (rEv m l) a k y := by
  induction l generalizing m with
  | nil => rfl
  | cons q l ih =>
    obtain ⟨t, x⟩ := q
    cases t
    · show rEv (rNotes (wr m a k y) x) l = _
      rw [rN_wr m x y hk]; exact ih _
    · show rEv (rWrites (wr m a k y) x) l = _
      rw [rW_wr m x y ha hk]; exact ih _
theorem wr_c2 (m : pM) {a b : Nat} {k j : Int} (x y : Int) (h : ¬ (b = a ∧ j = k)) : wr (wr m a k x) b j y = wr (wr m b j y) a k x := by
  funext e i; unfold wr
  by_cases e1 : e = b ∧ i = j
  · rw [if_pos e1, if_neg (fun z => h ⟨e1.1.symm.trans z.1, e1.2.symm.trans z.2⟩), if_pos e1]
  · rw [if_neg e1]
    by_cases e2 : e = a ∧ i = k
    · rw [if_pos e2, if_pos e2]
    · rw [if_neg e2, if_neg e2, if_neg e1]
theorem vMem.wr {m m1 : pM} {c : Int} {v : Int → Int} {ev : pEv} {z : Int} (h : vMem m m1 c v ev z) {a : Nat} {k : Int} (y : Int) (ha : a ≠ 103) (ha2 : a ≠ 92) (hk : a = 88 → k ≠ 1 ∧ k ≠ 2 ∧ k ≠ 3 ∧ k ≠ 19 ∧ k ≠ 23) : vMem (wr m a k y) (wr m1 a k y) c v ev z := by
  refine ⟨fun b hb => ?_, fun s q1 q2 => by rw [wr_a _ _ _ (Ne.symm ha2)]; exact h.2.1 s q1 q2, fun j hj => by rw [wr_a _ _ _ (Ne.symm ha2), wr_a _ _ _ (Ne.symm ha2)]; exact h.2.2 j hj⟩
  rw [rEv_wr m y ha (fun q => ⟨(hk q).1, (hk q).2.1, (hk q).2.2.1, (hk q).2.2.2.1⟩), wr_c2 _ _ _ (fun q => (hk q.1.symm).2.2.2.2 q.2.symm)]
  funext j
  show (if b = a ∧ j = k then y else m1 b j) = (if b = a ∧ j = k then y else _)
  rw [h.1 b hb]
theorem vMem.trans {m m1 m2 : pM} {c : Int} {v w : Int → Int} {ev ev2 : pEv} {z y : Int} (h : vMem m m1 c v ev z) (h2 : vMem m1 m2 c w ev2 y) : vMem m m2 c w (ev ++ ev2) y := by
  refine ⟨fun a ha => ?_, h2.2.1, fun j hj => (h2.2.2 j hj).trans (h.2.2 j hj)⟩
  rw [h2.1 a ha, wr_off (rEv_off h.1 ev2).1 23 y a ha, rEv_met, wr_wr, rEv_app]
theorem vMem.cong {m m1 : pM} {c : Int} {v w : Int → Int} {ev : pEv} {z : Int} (h : vMem m m1 c v ev z) (hv : ∀ s : Int, 0 ≤ s → s ≤ 15 → v s = w s) : vMem m m1 c w ev z := ⟨h.1, fun s q1 q2 => (h.2.1 s q1 q2).trans (hv s q1 q2), h.2.2⟩
/-! what a move does depends on the places of the 16 seats alone -/
def vEq (v w : Int → Int) : Prop := ∀ s : Int, 0 ≤ s → s ≤ 15 → w s = v s
theorem vEq.up {v w : Int → Int} (h : vEq v w) (s x : Int) : vEq (vUp v s x) (vUp w s x) := fun j h1 h2 => by unfold vUp; split; rfl; exact h j h1 h2
theorem faGo_v {m : pM} {c : Int} (hs : sOk m c) {s : Int} (h1 : 0 ≤ s) (h2 : s ≤ 15) (dy : Int) (f : Nat) {v w : Int → Int} (h : vEq v w) : vEq (faGo m c s dy f v).1 (faGo m c s dy f w).1 ∧ (faGo m c s dy f w).2 = (faGo m c s dy f v).2 := by
  induction f generalizing v w with
  | zero => exact ⟨h, rfl⟩
  | succ f ih =>
    rw [faGo_succ, faGo_succ, h s h1 h2, fRes_v hs h]
    have i := ih (h.up s (v s + dy))
    split
    · split
      · exact ⟨i.1, by rw [i.2]⟩
      · exact ⟨h, rfl⟩
    · exact ⟨h, rfl⟩
theorem tSt_v {m : pM} {c : Int} (hs : sOk m c) (t : Int) {s : Int} (h1 : 0 ≤ s) (h2 : s ≤ 15) {v w : Int → Int} (h : vEq v w) : vEq (tSt m c t s v).1 (tSt m c t s w).1 ∧ (tSt m c t s w).2 = (tSt m c t s v).2 := by
  have i := faGo_v hs h1 h2 (tBy m c t s) 7 h
  unfold tSt
  rw [h s h1 h2]
  split
  · exact ⟨h, rfl⟩
  · split
    · split
      · exact ⟨h, rfl⟩
      · exact ⟨i.1, by rw [i.2]⟩
    · exact ⟨i.1, by rw [i.2]⟩
theorem tGo_v {m : pM} {c : Int} (hs : sOk m c) (t : Int) (k : Nat) (hk : k ≤ 16) {v w : Int → Int} (h : vEq v w) : vEq (tGo m c t k v).1 (tGo m c t k w).1 ∧ (tGo m c t k w).2 = (tGo m c t k v).2 := by
  induction k with
  | zero => exact ⟨h, rfl⟩
  | succ k ih =>
    have i := ih (by omega)
    have j := tSt_v hs t (s := (k : Int)) (by omega) (by omega) i.1
    rw [tGo_succ, tGo_succ]
    exact ⟨j.1, by rw [i.2, j.2]⟩
theorem dRes_v {m : pM} {c : Int} (hs : sOk m c) {mv : Int} (hm : 0 ≤ mv) {v w : Int → Int} (h : vEq v w) : vEq (dRes m c mv v).1 (dRes m c mv w).1 ∧ (dRes m c mv w).2 = (dRes m c mv v).2 := by
  unfold dRes
  split
  · rw [h (mv / 2) (by omega) (by omega)]
    exact ⟨h.up _ _, rfl⟩
  · exact tGo_v hs (mv - 32) 16 (by omega) h
theorem faGo_s {m m1 : pM} (h : sSame m m1) (c s dy : Int) (f : Nat) (v : Int → Int) : faGo m1 c s dy f v = faGo m c s dy f v := by
  induction f generalizing v with
  | zero => rfl
  | succ f ih => rw [faGo_succ, faGo_succ, fRes_s h, ih]; unfold aSpan; rw [h.span]
theorem tSt_s {m m1 : pM} (h : sSame m m1) (c t s : Int) (v : Int → Int) : tSt m1 c t s v = tSt m c t s v := by
  have e : tBy m1 c t s = tBy m c t s := by unfold tBy aKind aSide; rw [h.kind, h.side]
  unfold tSt aKind aSpan
  rw [e, faGo_s h, h.kind, h.span]
theorem tGo_s {m m1 : pM} (h : sSame m m1) (c t : Int) (k : Nat) (v : Int → Int) : tGo m1 c t k v = tGo m c t k v := by
  induction k with
  | zero => rfl
  | succ k ih => rw [tGo_succ, tGo_succ, ih, tSt_s h]
theorem dRes_s {m m1 : pM} (h : sSame m m1) (c mv : Int) (v : Int → Int) : dRes m1 c mv v = dRes m c mv v := by unfold dRes aSpan; rw [h.span, tGo_s h]
theorem faGo_ok {m : pM} {c : Int} (s dy : Int) (f : Nat) {v : Int → Int} (h : pOkv m c v) : pOkv m c (faGo m c s dy f v).1 := by
  induction f generalizing v with
  | zero => exact h
  | succ f ih =>
    rw [faGo_succ]
    split
    · rename_i q
      split
      · exact ih (pOkv_up h ⟨q.1, by omega⟩)
      · exact h
    · exact h
theorem tSt_ok {m : pM} {c : Int} (t s : Int) {v : Int → Int} (h : pOkv m c v) : pOkv m c (tSt m c t s v).1 := by
  unfold tSt
  split
  · exact h
  · split
    · split
      · exact h
      · exact faGo_ok _ _ _ h
    · exact faGo_ok _ _ _ h
theorem tGo_ok {m : pM} {c : Int} (t : Int) (k : Nat) {v : Int → Int} (h : pOkv m c v) : pOkv m c (tGo m c t k v).1 := by
  induction k with
  | zero => exact h
  | succ k ih => rw [tGo_succ]; exact tSt_ok _ _ ih
theorem dRes_ok {m : pM} {c : Int} (hp : pOk m c) {mv : Int} (h0 : 0 ≤ mv) (hk : mv < 32 → aKind m c (mv / 2) ≠ -1) {v : Int → Int} (h : pOkv m c v) : pOkv m c (dRes m c mv v).1 := by
  unfold dRes
  split
  · rename_i q
    have e := hp (mv / 2) (by omega) (by omega) (hk q)
    exact pOkv_up h ⟨Int.emod_nonneg _ (by omega), Int.emod_lt_of_pos _ (by omega)⟩
  · exact tGo_ok _ _ h
theorem dRes_len {m : pM} {c : Int} (hs : 0 ≤ aNc m c ∧ aNc m c ≤ 40) (mv : Int) (v : Int → Int) : (dRes m c mv v).2.length ≤ 13472 := by
  unfold dRes
  split
  · exact Nat.zero_le _
  · exact tGo_len hs (mv - 32) 16 v
theorem iRes_kind {m : pM} {c : Int} {v : Int → Int} {mv : Int} (h : iRes m c v mv ≠ 0) (hm : mv < 32) : aKind m c (mv / 2) ≠ -1 := by
  have hb := bFind_ran m c (mv / 2)
  have e : bFind m c (mv / 2) = 0 := by
    by_cases q : bFind m c (mv / 2) = 0
    · exact q
    · exfalso; apply h
      have e3 : (bRes m c v mv).1 = -10 - bFind m c (mv / 2) := by unfold bRes; rw [if_neg (show ¬ 32 ≤ mv by omega), if_pos q]
      unfold iRes
      rw [e3]
      exact if_neg (by omega)
  have e2 : aComes m c (mv / 2) = 0 := by
    by_cases q : aComes m c (mv / 2) = 0
    · exact q
    · unfold bFind at e; rw [if_pos q] at e; exact e
  exact aComes_kind e2
/-! the number of places v -/
def eAv (m : pM) (c : Int) (v : Int → Int) (s : Int) : Int := if aKind m c s = -1 then 0 else v s
def numV (m : pM) (c : Int) (v : Int → Int) : Nat → Int
  | 0 => 0
  | s + 1 => numV m c v s + pW m c s * eAv m c v s
theorem aNum_V {m m1 : pM} (h : sSame m m1) (c : Int) {v : Int → Int} (hv : ∀ s : Int, 0 ≤ s → s ≤ 15 → aAt m1 c s = v s) (k : Nat) (hk : k ≤ 16) : aNum m1 c k = numV m c v k := by
  induction k with
  | zero => rfl
  | succ k ih =>
    show aNum m1 c k + pW m1 c k * eAt m1 c k = numV m c v k + pW m c k * eAv m c v k
    rw [ih (by omega), pW_s h]
    congr 2
    unfold eAt eAv aKind
    rw [h.kind]
    split
    · rfl
    · exact hv k (by omega) (by omega)
theorem aNum_v (m : pM) (c : Int) (k : Nat) (hk : k ≤ 16) : aNum m c k = numV m c (aAt m c) k := aNum_V (fun _ _ _ _ => rfl) c (fun _ _ _ => rfl) k hk
