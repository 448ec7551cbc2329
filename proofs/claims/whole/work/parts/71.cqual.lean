/-! ===== what a chest does depends on that chest alone ===== -/
theorem cq_comes {A A2 : pM} {c c2 : Int} (h : chEq A c A2 c2) {s : Int} (h1 : 0 ≤ s) (h2 : s ≤ 15) : aComes A2 c2 s = aComes A c s := by
  have a : aRow A2 c2 (s / 4) = aRow A c (s / 4) := h.1 (s / 4) (by omega) (by omega)
  have b : aKind A2 c2 s = aKind A c s := (h.2.1 s h1 h2).1
  unfold aComes; rw [a, b]
theorem cq_kind {A A2 : pM} {c c2 : Int} (h : chEq A c A2 c2) {s : Int} (h1 : 0 ≤ s) (h2 : s ≤ 15) : aKind A2 c2 s = aKind A c s := (h.2.1 s h1 h2).1
theorem cq_span {A A2 : pM} {c c2 : Int} (h : chEq A c A2 c2) {s : Int} (h1 : 0 ≤ s) (h2 : s ≤ 15) (hk : aKind A c s ≠ -1) : aSpan A2 c2 s = aSpan A c s := ((h.2.1 s h1 h2).2 hk).1
theorem cq_side {A A2 : pM} {c c2 : Int} (h : chEq A c A2 c2) {s : Int} (h1 : 0 ≤ s) (h2 : s ≤ 15) (hk : aKind A c s ≠ -1) : aSide A2 c2 s = aSide A c s := ((h.2.1 s h1 h2).2 hk).2
theorem cq_ok {A A2 : pM} {c c2 : Int} (h : chEq A c A2 c2) {v : Int → Int} (hv : pOkv A c v) : pOkv A2 c2 v := fun s s1 s2 s3 => by
  rw [cq_kind h s1 s2] at s3
  rw [cq_span h s1 s2 s3]; exact hv s s1 s2 s3
theorem cq_hold {A A2 : pM} {c c2 : Int} (h : chEq A c A2 c2) (hI : cIn A c) {v : Int → Int} (hv : pOkv A c v) {k : Int} (k1 : 0 ≤ k) (k2 : k < A 94 c) : hMet A2 c2 v k = hMet A c v k ∧ hIs A2 c2 v k = hIs A c v k ∧ hEv A2 c2 k = hEv A c k := by
  have q := h.2.2.2 k k1 k2
  have hl := (hI.2.2.1.2 k k1 k2).2.1
  have el : aLook A2 c2 k = aLook A c k := q.2.1
  have em : aMany A2 c2 k = aMany A c k := q.2.2.1
  have ec : aComes A2 c2 (aLook A c k) = aComes A c (aLook A c k) := cq_comes h hl.1 hl.2
  have ek : aKind A2 c2 (aLook A c k) = aKind A c (aLook A c k) := cq_kind h hl.1 hl.2
  have ev : hEv A2 c2 k = hEv A c k := by unfold hEv; rw [el, ec, ek]
  by_cases e : aComes A c (aLook A c k) = 0
  · have hk := aComes_kind e
    have es := cq_span h hl.1 hl.2 hk
    have et : hTel A2 c2 v k = hTel A c v k := by unfold hTel; rw [el, ek, es]
    have e1 : hMet A2 c2 v k = hMet A c v k := by unfold hMet; rw [el, ec, ek, em, et]
    have ht := tel_ran (k := aKind A c (aLook A c k)) (hI.ok.1.2.2 _ hl.1 hl.2 hk) (hv _ hl.1 hl.2 hk)
    have eT : aTru A2 c2 k (hTel A c v k) = aTru A c k (hTel A c v k) := q.2.2.2 _ ht.1 ht.2
    exact ⟨e1, by unfold hIs; rw [e1, et, eT], ev⟩
  · have e1 : hMet A2 c2 v k = aComes A c (aLook A c k) := by unfold hMet; rw [el, ec, if_pos e]
    have e2 : hMet A c v k = aComes A c (aLook A c k) := by unfold hMet; rw [if_pos e]
    refine ⟨by rw [e1, e2], ?_, ev⟩
    unfold hIs
    rw [e1, e2, if_neg (fun z => e z.1), if_neg (fun z => e z.1)]
theorem cq_fGo {A A2 : pM} {c c2 : Int} (h : chEq A c A2 c2) (hI : cIn A c) {v : Int → Int} (hv : pOkv A c v) (s : Int) (f : Nat) (k : Int) (h1 : 0 ≤ k) (h2 : k + f ≤ A 94 c) : fGo A2 c2 v s f k = fGo A c v s f k := by
  induction f generalizing k with
  | zero => rfl
  | succ f ih =>
    have a := cq_hold h hI hv h1 (by omega)
    have es : aSeat A2 c2 k = aSeat A c k := (h.2.2.2 k h1 (by omega)).1
    have ec : cEv A2 c2 v k = cEv A c v k := by unfold cEv; rw [a.1, a.2.2]
    rw [fGo_succ, fGo_succ, ih (k + 1) (by omega) (by omega), es, a.2.1, ec]
theorem cq_fRes {A A2 : pM} {c c2 : Int} (h : chEq A c A2 c2) (hI : cIn A c) {v : Int → Int} (hv : pOkv A c v) (s : Int) : fRes A2 c2 v s = fRes A c v s := by
  have e : aNc A2 c2 = aNc A c := h.2.2.1
  have := hI.2.2.1.1
  unfold fRes
  rw [e]
  exact cq_fGo h hI hv s _ 0 (Int.le_refl _) (by show 0 + ((A 94 c).toNat : Int) ≤ A 94 c; omega)
theorem cq_anyO {A A2 : pM} {c c2 : Int} (h : chEq A c A2 c2) (k : Nat) (hk : (k : Int) ≤ A 94 c) : anyO A2 c2 k = anyO A c k := by
  induction k with
  | zero => rfl
  | succ k ih =>
    have es : aSeat A2 c2 k = aSeat A c k := (h.2.2.2 k (by omega) (by omega)).1
    unfold anyO; rw [ih (by omega), es]
theorem cq_oRes {A A2 : pM} {c c2 : Int} (h : chEq A c A2 c2) (hI : cIn A c) {v : Int → Int} (hv : pOkv A c v) : oRes A2 c2 v = oRes A c v := by
  have e : aNc A2 c2 = aNc A c := h.2.2.1
  have := hI.2.2.1.1
  unfold oRes
  rw [e, cq_anyO h _ (by show ((A 94 c).toNat : Int) ≤ A 94 c; omega), cq_fRes h hI hv]
theorem cq_bRes {A A2 : pM} {c c2 : Int} (h : chEq A c A2 c2) (hI : cIn A c) {v : Int → Int} (hv : pOkv A c v) {mv : Int} (hm : 0 ≤ mv) : bRes A2 c2 v mv = bRes A c v mv := by
  unfold bRes
  by_cases q : 32 ≤ mv
  · rw [if_pos q, if_pos q]
  · rw [if_neg q, if_neg q]
    have ek : aKind A2 c2 (mv / 2) = aKind A c (mv / 2) := cq_kind h (by omega) (by omega)
    have eb : bFind A2 c2 (mv / 2) = bFind A c (mv / 2) := by unfold bFind; rw [cq_comes h (by omega) (by omega), ek]
    rw [eb, ek]
    by_cases w : bFind A c (mv / 2) ≠ 0
    · rw [if_pos w, if_pos w]
    · rw [if_neg w, if_neg w, cq_span h (by omega) (by omega) (bFind_kind (by omega)), cq_fRes h hI hv]
theorem cq_tBy {A A2 : pM} {c c2 : Int} (h : chEq A c A2 c2) (t : Int) {s : Int} (h1 : 0 ≤ s) (h2 : s ≤ 15) : tBy A2 c2 t s = tBy A c t s := by
  unfold tBy
  rw [cq_kind h h1 h2]
  by_cases q : aKind A c s ≠ 2 ∧ aKind A c s ≠ 3
  · rw [if_pos q, if_pos q]
  · rw [if_neg q, if_neg q, cq_side h h1 h2 (by omega)]
theorem cq_faGo {A A2 : pM} {c c2 : Int} (h : chEq A c A2 c2) (hI : cIn A c) {s : Int} (h1 : 0 ≤ s) (h2 : s ≤ 15) (hk : aKind A c s ≠ -1) (dy : Int) (f : Nat) {v : Int → Int} (hv : pOkv A c v) : faGo A2 c2 s dy f v = faGo A c s dy f v := by
  induction f generalizing v with
  | zero => rfl
  | succ f ih =>
    rw [faGo_succ, faGo_succ, cq_span h h1 h2 hk, cq_fRes h hI hv]
    by_cases q : 0 ≤ v s + dy ∧ v s + dy ≤ aSpan A c s - 1
    · have hup : pOkv A c (vUp v s (v s + dy)) := fun j j1 j2 j3 => by
        unfold vUp
        by_cases e : j = s
        · rw [if_pos e, e]; omega
        · rw [if_neg e]; exact hv j j1 j2 j3
      rw [if_pos q, if_pos q, ih hup]
    · rw [if_neg q, if_neg q]
theorem cq_tSt {A A2 : pM} {c c2 : Int} (h : chEq A c A2 c2) (hI : cIn A c) (t : Int) {s : Int} (h1 : 0 ≤ s) (h2 : s ≤ 15) {v : Int → Int} (hv : pOkv A c v) : tSt A2 c2 t s v = tSt A c t s v := by
  unfold tSt
  rw [cq_tBy h t h1 h2, cq_kind h h1 h2]
  by_cases q : tBy A c t s = 0
  · rw [if_pos q, if_pos q]
  · have hk := tBy_kind q
    rw [if_neg q, if_neg q, cq_span h h1 h2 (by omega), cq_faGo h hI h1 h2 (by omega) _ _ hv]
theorem cq_tGo {A A2 : pM} {c c2 : Int} (h : chEq A c A2 c2) (hI : cIn A c) (t : Int) (k : Nat) (hk : k ≤ 16) {v : Int → Int} (hv : pOkv A c v) : tGo A2 c2 t k v = tGo A c t k v := by
  induction k with
  | zero => rfl
  | succ k ih =>
    rw [tGo_succ, tGo_succ, ih (by omega), cq_tSt h hI t (by omega) (by omega) (tGo_ok t k hv)]
theorem cq_numV {A A2 : pM} {c c2 : Int} (h : chEq A c A2 c2) (v : Int → Int) (k : Nat) (hk : k ≤ 16) : numV A2 c2 v k = numV A c v k := by
  induction k with
  | zero => rfl
  | succ k ih =>
    show numV A2 c2 v k + pW A2 c2 k * eAv A2 c2 v k = numV A c v k + pW A c k * eAv A c v k
    have e : eAv A2 c2 v k = eAv A c v k := by unfold eAv; rw [cq_kind h (by omega) (by omega)]
    rw [ih (by omega), h.w k (by omega), e]
theorem cq_lfN {A A2 : pM} {c c2 : Int} (h : chEq A c A2 c2) (x : Int) (k : Nat) (hk : k ≤ 16) : lfN A2 c2 x k = lfN A c x k := by
  induction k with
  | zero => rfl
  | succ k ih => show lfN A2 c2 x k / eSp A2 c2 k = lfN A c x k / eSp A c k; rw [ih (by omega), h.e k (by omega) (by omega)]
theorem cq_opN {A A2 : pM} {c c2 : Int} (h : chEq A c A2 c2) (hI : cIn A c) (hs2 : sOk A2 c2) (x : Int) : opN A2 c2 x = opN A c x := by
  have hv : pOkv A c (stN A c x) := setV_ok hI.ok.1.2.2 _ x
  have hk : vEk A2 c2 (stN A2 c2 x) (stN A c x) := fun s s1 s2 s3 => by
    have k3 : aKind A c s ≠ -1 := by rw [← cq_kind h s1 s2]; exact s3
    unfold stN setV; rw [if_neg s3, if_neg k3, cq_lfN h x _ (by omega), cq_span h s1 s2 k3]
  unfold opN
  rw [← oRes_k hs2 hk, cq_oRes h hI hv]
theorem cq_mvN {A A2 : pM} {c c2 : Int} (h : chEq A c A2 c2) (hI : cIn A c) (hs2 : sOk A2 c2) (x : Int) {mv : Int} (hm : 0 ≤ mv) : mvN A2 c2 x mv = mvN A c x mv := by
  have hv : pOkv A c (stN A c x) := setV_ok hI.ok.1.2.2 _ x
  have hk : vEk A2 c2 (stN A2 c2 x) (stN A c x) := fun s s1 s2 s3 => by
    have k3 : aKind A c s ≠ -1 := by rw [← cq_kind h s1 s2]; exact s3
    unfold stN setV; rw [if_neg s3, if_neg k3, cq_lfN h x _ (by omega), cq_span h s1 s2 k3]
  have ei : iRes A2 c2 (stN A2 c2 x) mv = iRes A c (stN A c x) mv := by rw [← iRes_k hs2 hk hm]; unfold iRes; rw [cq_bRes h hI hv hm]
  unfold mvN
  rw [ei]
  by_cases q : iRes A c (stN A c x) mv = 0
  · rw [if_pos q, if_pos q]
  · rw [if_neg q, if_neg q]
    have kd : mv < 32 → aKind A c (mv / 2) ≠ -1 := fun z => iRes_kind q z
    have kd2 : mv < 32 → aKind A2 c2 (mv / 2) ≠ -1 := fun z => by rw [cq_kind h (by omega) (by omega)]; exact kd z
    rw [← numV_k (dRes_k hs2 hm kd2 hk).1 16 (by omega), cq_numV h _ 16 (by omega)]
    have ed : dRes A2 c2 mv (stN A c x) = dRes A c mv (stN A c x) := by
      unfold dRes
      by_cases w : mv < 32
      · rw [if_pos w, if_pos w, cq_span h (by omega) (by omega) (kd w)]
      · rw [if_neg w, if_neg w, cq_tGo h hI _ 16 (by omega) hv]
    rw [ed]
theorem cq_GI {A A2 : pM} {c c2 : Int} (h : chEq A c A2 c2) (hI : cIn A c) (hs2 : sOk A2 c2) {S : pM} (hG : GI A c S) : GI A2 c2 S := by
  obtain ⟨⟨g1, g2, g3, g4⟩, g5⟩ := hG
  refine ⟨⟨g1, fun k k1 k2 => by rw [h.w 16 (by omega)]; exact g2 k k1 k2, fun k k1 k2 => by rw [cq_opN h hI hs2]; exact g3 k k1 k2, g4⟩, fun k k1 k2 j j1 j2 => ?_⟩
  have := g5 k k1 k2 j j1 j2
  unfold LD at this ⊢
  rw [cq_mvN h hI hs2 _ j1]
  exact this
