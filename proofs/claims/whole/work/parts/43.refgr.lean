/-! ===== places where parts stand: what depends on them alone ===== -/
def vEk (m : pM) (c : Int) (v w : Int → Int) : Prop := ∀ s : Int, 0 ≤ s → s ≤ 15 → aKind m c s ≠ -1 → w s = v s
theorem vEk.up {m : pM} {c : Int} {v w : Int → Int} (h : vEk m c v w) (s x : Int) : vEk m c (vUp v s x) (vUp w s x) := fun j h1 h2 h3 => by unfold vUp; split; rfl; exact h j h1 h2 h3
theorem hMI_k {m : pM} {c : Int} {v w : Int → Int} (hs : sOk m c) (h : vEk m c v w) {k : Int} (h1 : 0 ≤ k) (h2 : k < aNc m c) : hMet m c w k = hMet m c v k ∧ hIs m c w k = hIs m c v k := by
  have hl := (hs.2.1 k h1 h2).2.1
  by_cases e : aComes m c (aLook m c k) = 0
  · have ht : hTel m c w k = hTel m c v k := by unfold hTel; rw [h _ hl.1 hl.2 (aComes_kind e)]
    have hm : hMet m c w k = hMet m c v k := by unfold hMet; rw [ht]
    exact ⟨hm, by unfold hIs; rw [hm, ht]⟩
  · have e1 : hMet m c w k = aComes m c (aLook m c k) := by unfold hMet; rw [if_pos e]
    have e2 : hMet m c v k = aComes m c (aLook m c k) := by unfold hMet; rw [if_pos e]
    refine ⟨by rw [e1, e2], ?_⟩
    unfold hIs
    rw [e1, e2, if_neg (fun z => e z.1), if_neg (fun z => e z.1)]
theorem fGo_k {m : pM} {c : Int} {v w : Int → Int} (hs : sOk m c) (h : vEk m c v w) (seat : Int) (f : Nat) (k : Int) (h1 : 0 ≤ k) (h2 : k + f ≤ aNc m c) : fGo m c w seat f k = fGo m c v seat f k := by
  induction f generalizing k with
  | zero => rfl
  | succ f ih =>
    rw [fGo_succ, fGo_succ, ih (k + 1) (by omega) (by omega)]
    have e := hMI_k hs h (k := k) h1 (by omega)
    have e3 : cEv m c w k = cEv m c v k := by unfold cEv; rw [e.1]
    rw [e.2, e3]
theorem fRes_k {m : pM} {c : Int} {v w : Int → Int} (hs : sOk m c) (h : vEk m c v w) (seat : Int) : fRes m c w seat = fRes m c v seat := by
  unfold fRes
  have := hs.1
  exact fGo_k hs h seat _ 0 (Int.le_refl _) (by omega)
theorem oRes_k {m : pM} {c : Int} {v w : Int → Int} (hs : sOk m c) (h : vEk m c v w) : oRes m c w = oRes m c v := by unfold oRes; rw [fRes_k hs h]
theorem oEv_k {m : pM} {c : Int} {v w : Int → Int} (hs : sOk m c) (h : vEk m c v w) : oEv m c w = oEv m c v := by unfold oEv; rw [fRes_k hs h]
theorem bFind_kind {m : pM} {c s : Int} (h : bFind m c s = 0) : aKind m c s ≠ -1 := by
  have e2 : aComes m c s = 0 := by
    by_cases q : aComes m c s = 0
    · exact q
    · unfold bFind at h; rw [if_pos q] at h; exact h
  exact aComes_kind e2
theorem bRes_k {m : pM} {c : Int} {v w : Int → Int} (hs : sOk m c) (h : vEk m c v w) {mv : Int} (h1 : 0 ≤ mv) : bRes m c w mv = bRes m c v mv := by
  unfold bRes
  by_cases e : 32 ≤ mv
  · rw [if_pos e, if_pos e]
  · rw [if_neg e, if_neg e]
    by_cases e1 : bFind m c (mv / 2) = 0
    · have e2 : bTo w mv = bTo v mv := by unfold bTo; rw [h (mv / 2) (by omega) (by omega) (bFind_kind e1)]
      rw [e2, fRes_k hs h]
    · rw [if_pos e1, if_pos e1]
theorem iRes_k {m : pM} {c : Int} {v w : Int → Int} (hs : sOk m c) (h : vEk m c v w) {mv : Int} (h1 : 0 ≤ mv) : iRes m c w mv = iRes m c v mv := by unfold iRes; rw [bRes_k hs h h1]
theorem iEv_k {m : pM} {c : Int} {v w : Int → Int} (hs : sOk m c) (h : vEk m c v w) {mv : Int} (h1 : 0 ≤ mv) : iEv m c w mv = iEv m c v mv := by unfold iEv; rw [bRes_k hs h h1]
theorem faGo_k {m : pM} {c : Int} (hs : sOk m c) {s : Int} (h1 : 0 ≤ s) (h2 : s ≤ 15) (h3 : aKind m c s ≠ -1) (dy : Int) (f : Nat) {v w : Int → Int} (h : vEk m c v w) : vEk m c (faGo m c s dy f v).1 (faGo m c s dy f w).1 ∧ (faGo m c s dy f w).2 = (faGo m c s dy f v).2 := by
  induction f generalizing v w with
  | zero => exact ⟨h, rfl⟩
  | succ f ih =>
    rw [faGo_succ, faGo_succ, h s h1 h2 h3, fRes_k hs h]
    have i := ih (h.up s (v s + dy))
    split
    · split
      · exact ⟨i.1, by rw [i.2]⟩
      · exact ⟨h, rfl⟩
    · exact ⟨h, rfl⟩
theorem tBy_kind {m : pM} {c t s : Int} (h : tBy m c t s ≠ 0) : aKind m c s = 2 ∨ aKind m c s = 3 := by
  by_cases q : aKind m c s ≠ 2 ∧ aKind m c s ≠ 3
  · exact absurd (if_pos q) h
  · omega
theorem tSt_k {m : pM} {c : Int} (hs : sOk m c) (t : Int) {s : Int} (h1 : 0 ≤ s) (h2 : s ≤ 15) {v w : Int → Int} (h : vEk m c v w) : vEk m c (tSt m c t s v).1 (tSt m c t s w).1 ∧ (tSt m c t s w).2 = (tSt m c t s v).2 := by
  by_cases e : tBy m c t s = 0
  · unfold tSt; rw [if_pos e, if_pos e]; exact ⟨h, rfl⟩
  · have hk : aKind m c s ≠ -1 := by have := tBy_kind e; omega
    have i := faGo_k hs h1 h2 hk (tBy m c t s) 7 h
    unfold tSt
    rw [h s h1 h2 hk, if_neg e, if_neg e]
    split
    · split
      · exact ⟨h, rfl⟩
      · exact ⟨i.1, by rw [i.2]⟩
    · exact ⟨i.1, by rw [i.2]⟩
theorem tGo_k {m : pM} {c : Int} (hs : sOk m c) (t : Int) (k : Nat) (hk : k ≤ 16) {v w : Int → Int} (h : vEk m c v w) : vEk m c (tGo m c t k v).1 (tGo m c t k w).1 ∧ (tGo m c t k w).2 = (tGo m c t k v).2 := by
  induction k with
  | zero => exact ⟨h, rfl⟩
  | succ k ih =>
    have i := ih (by omega)
    have j := tSt_k hs t (s := (k : Int)) (by omega) (by omega) i.1
    rw [tGo_succ, tGo_succ]
    exact ⟨j.1, by rw [i.2, j.2]⟩
theorem dRes_k {m : pM} {c : Int} (hs : sOk m c) {mv : Int} (hm : 0 ≤ mv) (hkn : mv < 32 → aKind m c (mv / 2) ≠ -1) {v w : Int → Int} (h : vEk m c v w) : vEk m c (dRes m c mv v).1 (dRes m c mv w).1 ∧ (dRes m c mv w).2 = (dRes m c mv v).2 := by
  unfold dRes
  split
  · rename_i q
    rw [h (mv / 2) (by omega) (by omega) (hkn q)]
    exact ⟨h.up _ _, rfl⟩
  · exact tGo_k hs (mv - 32) 16 (by omega) h
/-! seats without a part stay as they are -/
theorem faGo_e (m : pM) (c s dy : Int) (f : Nat) (v : Int → Int) (j : Int) (hj : j ≠ s) : (faGo m c s dy f v).1 j = v j := by
  induction f generalizing v with
  | zero => rfl
  | succ f ih =>
    rw [faGo_succ]
    split
    · split
      · show (faGo m c s dy f (vUp v s (v s + dy))).1 j = v j
        rw [ih]; exact if_neg hj
      · rfl
    · rfl
theorem tSt_e (m : pM) (c t s : Int) (v : Int → Int) (j : Int) (hj : aKind m c j = -1) : (tSt m c t s v).1 j = v j := by
  unfold tSt
  split
  · rfl
  · rename_i e
    have := tBy_kind e
    have hne : j ≠ s := fun z => by subst z; omega
    split
    · split
      · rfl
      · exact faGo_e m c s _ 7 v j hne
    · exact faGo_e m c s _ 7 v j hne
theorem tGo_e (m : pM) (c t : Int) (k : Nat) (v : Int → Int) (j : Int) (hj : aKind m c j = -1) : (tGo m c t k v).1 j = v j := by
  induction k with
  | zero => rfl
  | succ k ih => rw [tGo_succ]; show (tSt m c t k (tGo m c t k v).1).1 j = _; rw [tSt_e m c t k _ j hj, ih]
theorem dRes_e (m : pM) (c mv : Int) (hkn : mv < 32 → aKind m c (mv / 2) ≠ -1) (v : Int → Int) (j : Int) (hj : aKind m c j = -1) : (dRes m c mv v).1 j = v j := by
  unfold dRes
  split
  · rename_i q
    have hne : j ≠ mv / 2 := fun z => hkn q (by rw [← z]; exact hj)
    exact if_neg hne
  · exact tGo_e m c _ 16 v j hj
/-! ===== numbers and places ===== -/
theorem numV_ran {m : pM} {c : Int} (h : pOk m c) {v : Int → Int} (hv : pOkv m c v) (k : Nat) (hk : k ≤ 16) : 0 ≤ numV m c v k ∧ numV m c v k + 1 ≤ pW m c k := by
  induction k with
  | zero => exact ⟨Int.le_refl _, Int.le_refl _⟩
  | succ k ih =>
    have i := ih (by omega)
    have p := pW_ran h k (by omega)
    have e : 0 ≤ eAv m c v k ∧ eAv m c v k + 1 ≤ eSp m c k := by
      unfold eAv eSp
      by_cases q : aKind m c k = -1
      · rw [if_pos q, if_pos q]; omega
      · rw [if_neg q, if_neg q]
        have := hv (k : Int) (by omega) (by omega) q
        omega
    show 0 ≤ numV m c v k + pW m c k * eAv m c v k ∧ numV m c v k + pW m c k * eAv m c v k + 1 ≤ pW m c k * eSp m c k
    have a1 := Int.mul_nonneg (show 0 ≤ pW m c k by omega) e.1
    have a2 := Int.mul_le_mul_of_nonneg_left e.2 (show 0 ≤ pW m c k by omega)
    rw [Int.mul_add, Int.mul_one] at a2
    omega
theorem setV_ok {m : pM} {c : Int} (h : pOk m c) (v : Int → Int) (x : Int) : pOkv m c (setV m c v x) := fun s h1 h2 h3 => by
  unfold setV
  rw [if_neg h3]
  have e := h s h1 h2 h3
  exact ⟨Int.emod_nonneg _ (by omega), Int.emod_lt_of_pos _ (by omega)⟩
theorem numV_set {m : pM} {c : Int} (h : pOk m c) (v : Int → Int) (x : Int) (k : Nat) (hk : k ≤ 16) : numV m c (setV m c v x) k + pW m c k * lfN m c x k = x := by
  induction k with
  | zero => show 0 + 1 * x = x; omega
  | succ k ih =>
    have i := ih (by omega)
    show numV m c (setV m c v x) k + pW m c k * eAv m c (setV m c v x) k + pW m c k * eSp m c k * (lfN m c x k / eSp m c k) = x
    have e : eAv m c (setV m c v x) k + eSp m c k * (lfN m c x k / eSp m c k) = lfN m c x k := by
      unfold eAv setV eSp
      by_cases q : aKind m c k = -1
      · rw [if_pos q, if_pos q]; omega
      · rw [if_neg q, if_neg q, if_neg q]
        exact Int.emod_add_mul_ediv (lfN m c x k) (aSpan m c k)
    rw [Int.mul_assoc, Int.add_assoc, ← Int.mul_add, e]
    exact i
theorem numV_setx {m : pM} {c : Int} (h : pOk m c) (v : Int → Int) {x : Int} (h1 : 0 ≤ x) (h2 : x < pW m c 16) : numV m c (setV m c v x) 16 = x := by
  have i := numV_set h v x 16 (by omega)
  have l := lfN_ran (m := m) (c := c) h h1 16 (by omega)
  have r := numV_ran h (setV_ok h v x) 16 (by omega)
  have p := pW_ran h 16 (by omega)
  have e : lfN m c x 16 = 0 := by
    rcases (show lfN m c x 16 = 0 ∨ 1 ≤ lfN m c x 16 by omega) with z | z
    · exact z
    · have := Int.mul_le_mul_of_nonneg_left z (show 0 ≤ pW m c 16 by omega)
      rw [Int.mul_one] at this
      omega
  rw [e, Int.mul_zero, Int.add_zero] at i
  exact i
theorem div_uniq {p a b x y : Int} (hp : 0 < p) (h1 : 0 ≤ a) (h2 : a < p) (h3 : 0 ≤ b) (h4 : b < p) (h : a + p * x = b + p * y) : a = b ∧ x = y := by
  have e1 : (a + p * x) % p = a := by rw [Int.add_mul_emod_self_left]; exact Int.emod_eq_of_lt h1 h2
  have e2 : (b + p * y) % p = b := by rw [Int.add_mul_emod_self_left]; exact Int.emod_eq_of_lt h3 h4
  have e : a = b := by rw [← e1, ← e2, h]
  refine ⟨e, ?_⟩
  subst e
  have e3 : p * x = p * y := by omega
  exact Int.eq_of_mul_eq_mul_left (by omega) e3
theorem numV_inj {m : pM} {c : Int} (h : pOk m c) {v w : Int → Int} (hv : pOkv m c v) (hw : pOkv m c w) (k : Nat) (hk : k ≤ 16) (e : numV m c v k = numV m c w k) : ∀ s : Nat, s < k → aKind m c s ≠ -1 → w s = v s := by
  induction k with
  | zero => intro s hs; omega
  | succ k ih =>
    have r1 := numV_ran h hv k (by omega)
    have r2 := numV_ran h hw k (by omega)
    have p := pW_ran h k (by omega)
    have u := div_uniq (show 0 < pW m c k by omega) r1.1 (by omega) r2.1 (by omega) e
    intro s hs hks
    rcases (show s < k ∨ s = k by omega) with q | q
    · exact ih (by omega) u.1 s q hks
    · subst q
      have := u.2
      unfold eAv at this
      rw [if_neg hks, if_neg hks] at this
      exact this.symm
theorem setV_num {m : pM} {c : Int} (h : pOk m c) (u : Int → Int) {v : Int → Int} (hv : pOkv m c v) : vEk m c (setV m c u (numV m c v 16)) v := fun s h1 h2 h3 => by
  have r := numV_ran h hv 16 (by omega)
  have e := numV_setx h u r.1 (show numV m c v 16 < pW m c 16 by omega)
  have i := numV_inj h (setV_ok h u (numV m c v 16)) hv 16 (by omega) e s.toNat (by omega)
  rw [Int.toNat_of_nonneg h1] at i
  exact i h3
theorem eAv_k {m : pM} {c : Int} {v w : Int → Int} (h : vEk m c v w) (s : Int) (h1 : 0 ≤ s) (h2 : s ≤ 15) : eAv m c w s = eAv m c v s := by
  unfold eAv
  split
  · rfl
  · rename_i q; exact h s h1 h2 q
theorem numV_k {m : pM} {c : Int} {v w : Int → Int} (h : vEk m c v w) (k : Nat) (hk : k ≤ 16) : numV m c w k = numV m c v k := by
  induction k with
  | zero => rfl
  | succ k ih => show numV m c w k + pW m c k * eAv m c w k = numV m c v k + pW m c k * eAv m c v k; rw [ih (by omega), eAv_k h k (by omega) (by omega)]
/-! ===== the states of a chest by their numbers: places, moves, whether open ===== -/
def stN (m : pM) (c x : Int) : Int → Int := setV m c (fun _ => 0) x
noncomputable def mvN (m : pM) (c x mv : Int) : Int := if iRes m c (stN m c x) mv = 0 then -1 else numV m c (dRes m c mv (stN m c x)).1 16
def opN (m : pM) (c x : Int) : Int := oRes m c (stN m c x)
theorem setV_k (m : pM) (c : Int) (u w : Int → Int) (x : Int) : vEk m c (setV m c u x) (setV m c w x) := fun s _ _ h3 => by unfold setV; rw [if_neg h3, if_neg h3]
theorem mvN_v {m : pM} {c : Int} (hs : sOk m c) (v : Int → Int) (x : Int) {mv : Int} (hm : 0 ≤ mv) : mvN m c x mv = if iRes m c (setV m c v x) mv = 0 then -1 else numV m c (dRes m c mv (setV m c v x)).1 16 := by
  have h := setV_k m c (fun _ => 0) v x
  unfold mvN stN
  rw [iRes_k hs h hm]
  by_cases e : iRes m c (setV m c (fun _ => 0) x) mv = 0
  · rw [if_pos e, if_pos e]
  · rw [if_neg e, if_neg e]
    exact (numV_k (dRes_k hs hm (fun q => iRes_kind e q) h).1 16 (by omega)).symm
theorem opN_v {m : pM} {c : Int} (hs : sOk m c) (v : Int → Int) (x : Int) : opN m c x = oRes m c (setV m c v x) := (oRes_k hs (setV_k m c (fun _ => 0) v x)).symm
theorem mvN_ran {m : pM} {c : Int} (hs : sOk m c) (x : Int) {mv : Int} (hm : 0 ≤ mv) : mvN m c x mv = -1 ∨ (0 ≤ mvN m c x mv ∧ mvN m c x mv < pW m c 16) := by
  unfold mvN
  by_cases e : iRes m c (stN m c x) mv = 0
  · exact Or.inl (if_pos e)
  · rw [if_neg e]
    have := numV_ran hs.2.2 (dRes_ok hs.2.2 hm (fun q => iRes_kind e q) (setV_ok hs.2.2 (fun _ => 0) x)) 16 (by omega)
    exact Or.inr ⟨this.1, by unfold stN; omega⟩
theorem opN_num {m : pM} {c : Int} (hs : sOk m c) {v : Int → Int} (hv : pOkv m c v) : opN m c (numV m c v 16) = oRes m c v := (oRes_k hs (setV_num hs.2.2 (fun _ => 0) hv)).symm
theorem opN_01 (m : pM) (c x : Int) : opN m c x = 0 ∨ opN m c x = 1 := oRes_01 _ _ _
theorem setV_s {m m1 : pM} (h : sSame m m1) (c : Int) (v : Int → Int) (x : Int) : setV m1 c v x = setV m c v x := by funext s; unfold setV aKind aSpan; rw [h.kind, h.span, lfN_s h]
theorem numV_s {m m1 : pM} (h : sSame m m1) (c : Int) (v : Int → Int) (k : Nat) : numV m1 c v k = numV m c v k := by
  induction k with
  | zero => rfl
  | succ k ih => show numV m1 c v k + pW m1 c k * eAv m1 c v k = _; rw [ih, pW_s h]; unfold eAv aKind; rw [h.kind]; rfl
theorem mvN_s {m m1 : pM} (h : sSame m m1) (c x mv : Int) : mvN m1 c x mv = mvN m c x mv := by unfold mvN stN; rw [setV_s h, iRes_s h, dRes_s h, numV_s h]
theorem opN_s {m m1 : pM} (h : sSame m m1) (c x : Int) : opN m1 c x = opN m c x := by unfold opN stN; rw [setV_s h, oRes_s h]
