/-! ===== one chest for another; what building keeps ===== -/
def chEq (A : pM) (c : Int) (A2 : pM) (c2 : Int) : Prop :=
  (∀ r, 0 ≤ r → r ≤ 3 → A2 89 (4 * c2 + r) = A 89 (4 * c + r)) ∧
  (∀ s, 0 ≤ s → s ≤ 15 → A2 90 (16 * c2 + s) = A 90 (16 * c + s) ∧ (A 90 (16 * c + s) ≠ -1 → A2 91 (16 * c2 + s) = A 91 (16 * c + s) ∧ A2 93 (16 * c2 + s) = A 93 (16 * c + s))) ∧
  A2 94 c2 = A 94 c ∧
  ∀ k, 0 ≤ k → k < A 94 c → A2 95 (40 * c2 + k) = A 95 (40 * c + k) ∧ A2 96 (40 * c2 + k) = A 96 (40 * c + k) ∧ A2 97 (40 * c2 + k) = A 97 (40 * c + k) ∧ ∀ i, 0 ≤ i → i ≤ 5 → A2 98 (6 * (40 * c2 + k) + i) = A 98 (6 * (40 * c + k) + i)
theorem chEq.e {A A2 : pM} {c c2 : Int} (h : chEq A c A2 c2) (s : Int) (h1 : 0 ≤ s) (h2 : s ≤ 15) : eSp A2 c2 s = eSp A c s := by
  have a := h.2.1 s h1 h2
  unfold eSp aKind aSpan
  rw [a.1]
  by_cases q : A 90 (16 * c + s) = -1
  · rw [if_pos q, if_pos q]
  · rw [if_neg q, if_neg q, (a.2 q).1]
theorem chEq.w {A A2 : pM} {c c2 : Int} (h : chEq A c A2 c2) (k : Nat) (hk : k ≤ 16) : pW A2 c2 k = pW A c k := by
  induction k with
  | zero => rfl
  | succ k ih => show pW A2 c2 k * eSp A2 c2 k = pW A c k * eSp A c k; rw [ih (by omega), h.e k (by omega) (by omega)]
theorem chEq.p {A A2 : pM} {c c2 : Int} (h : chEq A c A2 c2) (k : Nat) (hk : k ≤ 16) : aParts A2 c2 k = aParts A c k := by
  induction k with
  | zero => rfl
  | succ k ih =>
    show aParts A2 c2 k + (if aKind A2 c2 k = -1 then 0 else 1) = aParts A c k + (if aKind A c k = -1 then 0 else 1)
    rw [ih (by omega), show aKind A2 c2 k = aKind A c k from (h.2.1 k (by omega) (by omega)).1]
theorem CR_t {A A2 : pM} {c c2 : Int} {m : pM} {b : Nat} (h : CR A c m b) (e : chEq A c A2 c2) : CR A2 c2 m b := by
  obtain ⟨h1, h2, h3, h4⟩ := h
  refine ⟨fun r r1 r2 => by rw [e.1 r r1 r2]; exact h1 r r1 r2, fun s s1 s2 => ?_, by rw [e.2.2.1]; exact h3, fun k k1 k2 => ?_⟩
  · have a := h2 s s1 s2
    have q := e.2.1 s s1 s2
    rw [q.1, e.e s s1 s2]
    exact ⟨a.1, a.2.1, fun z => by rw [(q.2 z).2]; exact a.2.2 z⟩
  · rw [e.2.2.1] at k2
    have a := h4 k k1 k2
    have q := e.2.2.2 k k1 k2
    rw [q.1, q.2.1, q.2.2.1]
    exact ⟨a.1, a.2.1, a.2.2.1, fun i hi => by rw [q.2.2.2 i (by omega) (by omega)]; exact a.2.2.2 i hi⟩
theorem CS_t {A A2 : pM} {c c2 : Int} {m : pM} {b : Nat} (hI : cIn A c) (h : CS A c m b) (e : chEq A c A2 c2) : CS A2 c2 m b := by
  obtain ⟨hR, hD, hO⟩ := h
  refine ⟨CR_t hR e, ⟨fun s hs => by rw [e.w s (by omega)]; exact hD.1 s hs, by rw [e.w 16 (by omega)]; exact hD.2.1, by rw [e.p 16 (by omega)]; exact hD.2.2.1, ?_, fun k k1 k2 a ha => ?_⟩, SO_A hO e.2.2.1 (fun k k1 k2 => (e.2.2.2 k k1 k2).1)⟩
  · rw [hD.2.2.2.1]
    constructor
    · intro ⟨s, s1, s2, s3⟩; exact ⟨s, s1, s2, by rw [(e.2.1 s s1 s2).1]; exact s3⟩
    · intro ⟨s, s1, s2, s3⟩; exact ⟨s, s1, s2, by rw [(e.2.1 s s1 s2).1] at s3; exact s3⟩
  · rw [e.2.2.1] at k2
    have q := e.2.2.2 k k1 k2
    have hl := (hI.2.2.1.2 k k1 k2).2.1
    rw [q.2.1, e.e _ hl.1 hl.2] at ha
    rw [hD.2.2.2.2 k k1 k2 a ha]
    have qs := e.2.1 _ hl.1 hl.2
    have el : aLook A2 c2 k = aLook A c k := q.2.1
    have ek : aKind A2 c2 (aLook A c k) = aKind A c (aLook A c k) := qs.1
    have em : aMany A2 c2 k = aMany A c k := q.2.2.1
    unfold hBp
    rw [el, ek, em]
    by_cases w : aKind A c (aLook A c k) = -1
    · exact ⟨fun z => absurd w z.1, fun z => absurd w z.1⟩
    · have es : aSpan A2 c2 (aLook A c k) = aSpan A c (aLook A c k) := (qs.2 w).1
      have ht := tel_ran (k := aKind A c (aLook A c k)) (hI.ok.1.2.2 _ hl.1 hl.2 w) (t := (a : Int)) (by unfold eSp at ha; rw [if_neg w] at ha; exact ⟨by omega, ha⟩)
      have et : aTru A2 c2 k (tel (aKind A c (aLook A c k)) (aSpan A c (aLook A c k)) a) = aTru A c k (tel (aKind A c (aLook A c k)) (aSpan A c (aLook A c k)) a) := q.2.2.2 _ ht.1 ht.2
      rw [es, et]
theorem chEq.of {A A2 : pM} {c : Int} (h : ∀ a, 89 ≤ a → a ≤ 98 → a ≠ 92 → A2 a = A a) : chEq A c A2 c := by
  unfold chEq
  rw [h 89 (by omega) (by omega) (by omega), h 90 (by omega) (by omega) (by omega), h 91 (by omega) (by omega) (by omega), h 93 (by omega) (by omega) (by omega), h 94 (by omega) (by omega) (by omega), h 95 (by omega) (by omega) (by omega), h 96 (by omega) (by omega) (by omega), h 97 (by omega) (by omega) (by omega), h 98 (by omega) (by omega) (by omega)]
  exact ⟨fun _ _ _ => rfl, fun _ _ _ => ⟨rfl, fun _ => ⟨rfl, rfl⟩⟩, rfl, fun _ _ _ => ⟨rfl, rfl, rfl, fun _ _ _ => rfl⟩⟩
theorem CV_t {A A2 : pM} {c c2 : Int} {m : pM} {b : Nat} {v v2 : Int → Int} (h : CV A c m b v) (e : ∀ s, 0 ≤ s → s ≤ 15 → A2 90 (16 * c2 + s) = A 90 (16 * c + s) ∧ (A 90 (16 * c + s) ≠ -1 → v2 s = v s)) : CV A2 c2 m b v2 := fun s s1 s2 => by
  rw [h s s1 s2]; unfold eAv aKind
  have a := e s s1 s2
  rw [a.1]
  by_cases q : A 90 (16 * c + s) = -1
  · rw [if_pos q, if_pos q]
  · rw [if_neg q, if_neg q, a.2 q]
theorem cIn_more {A : pM} {c a l k : Int} (h : cIn A c) (ha : -1 ≤ a ∧ a ≤ 15) (hl : 0 ≤ l ∧ l ≤ 15) (hk : -1 ≤ k ∧ k ≤ 6) (h40 : A 94 c < 40) : cIn (rMore A c a l k) c := by
  obtain ⟨h1, h2, h3, h4, h5, h6⟩ := h
  have w := rMore_v A c a l k
  refine ⟨by rw [w.1 89 (by omega)]; exact h1, by rw [w.1 89 (by omega), w.1 90 (by omega), w.1 91 (by omega), w.1 92 (by omega), w.1 93 (by omega)]; exact h2, ⟨by rw [w.2.1]; omega, fun j j1 j2 => ?_⟩, by rw [w.1 99 (by omega)]; exact h4, by rw [w.1 100 (by omega)]; exact h5, ?_⟩
  · rw [w.2.1] at j2
    rw [w.2.2.1, w.2.2.2.1, w.2.2.2.2.1]
    by_cases q : j = A 94 c
    · subst q
      rw [if_pos rfl, if_pos rfl, if_pos rfl]
      refine ⟨ha, hl, hk, fun i i1 i2 => Or.inl ?_⟩
      rw [w.2.2.2.2.2.1, if_pos (by omega)]
    · rw [if_neg (by omega), if_neg (by omega), if_neg (by omega)]
      have e := h3.2 j j1 (by omega)
      refine ⟨e.1, e.2.1, e.2.2.1, fun i i1 i2 => ?_⟩
      rw [w.2.2.2.2.2.1, if_neg (by omega)]
      exact e.2.2.2 i i1 i2
  · have e : pW (rMore A c a l k) c 16 = pW A c 16 := by
      have : ∀ q : Nat, pW (rMore A c a l k) c q = pW A c q := fun q => by
        induction q with
        | zero => rfl
        | succ q ih => show pW (rMore A c a l k) c q * eSp (rMore A c a l k) c q = pW A c q * eSp A c q; rw [ih]; unfold eSp aKind aSpan; rw [w.1 90 (by omega), w.1 91 (by omega)]
      exact this 16
    rw [e]; exact h6
theorem cIn_98 {A A2 : pM} {c : Int} (h : cIn A c) (e : ∀ a, 89 ≤ a → a ≤ 100 → a ≠ 98 → A2 a = A a) (h98 : ∀ k, 0 ≤ k → k < A 94 c → ∀ i, 0 ≤ i → i ≤ 5 → A2 98 (6 * (40 * c + k) + i) = 0 ∨ A2 98 (6 * (40 * c + k) + i) = 1) : cIn A2 c := by
  obtain ⟨h1, h2, h3, h4, h5, h6⟩ := h
  have e94 := e 94 (by omega) (by omega) (by omega)
  refine ⟨by rw [e 89 (by omega) (by omega) (by omega)]; exact h1, by rw [e 89 (by omega) (by omega) (by omega), e 90 (by omega) (by omega) (by omega), e 91 (by omega) (by omega) (by omega), e 92 (by omega) (by omega) (by omega), e 93 (by omega) (by omega) (by omega)]; exact h2, ⟨by rw [e94]; exact h3.1, fun k k1 k2 => ?_⟩, by rw [e 99 (by omega) (by omega) (by omega)]; exact h4, by rw [e 100 (by omega) (by omega) (by omega)]; exact h5, ?_⟩
  · rw [e94] at k2
    rw [e 95 (by omega) (by omega) (by omega), e 96 (by omega) (by omega) (by omega), e 97 (by omega) (by omega) (by omega)]
    have a := h3.2 k k1 k2
    exact ⟨a.1, a.2.1, a.2.2.1, h98 k k1 k2⟩
  · have : ∀ q : Nat, pW A2 c q = pW A c q := fun q => by
      induction q with
      | zero => rfl
      | succ q ih => show pW A2 c q * eSp A2 c q = pW A c q * eSp A c q; rw [ih]; unfold eSp aKind aSpan; rw [e 90 (by omega) (by omega) (by omega), e 91 (by omega) (by omega) (by omega)]
    rw [this]; exact h6
theorem cIn_rem {A : pM} {c s : Int} (h : cIn A c) : cIn (wr A 90 (16 * c + s) (-1)) c := by
  obtain ⟨h1, h2, h3, h4, h5, h6⟩ := id h
  have eo : ∀ a, a ≠ 90 → wr A 90 (16 * c + s) (-1) a = A a := fun a q => wr_a _ _ _ q
  have e90 : ∀ j, wr A 90 (16 * c + s) (-1) 90 (16 * c + j) = if j = s then -1 else A 90 (16 * c + j) := fun j => by
    by_cases q : j = s
    · subst q; rw [wr_s, if_pos rfl]
    · rw [wr_k _ _ _ _ (by omega), if_neg q]
  refine ⟨by rw [eo 89 (by omega)]; exact h1, fun j j1 j2 => ?_, by rw [eo 94 (by omega), eo 95 (by omega), eo 96 (by omega), eo 97 (by omega), eo 98 (by omega)]; exact h3, by rw [eo 99 (by omega)]; exact h4, by rw [eo 100 (by omega)]; exact h5, ?_⟩
  · rw [e90, eo 89 (by omega), eo 91 (by omega), eo 92 (by omega), eo 93 (by omega)]
    by_cases q : j = s
    · rw [if_pos q]; exact Or.inl rfl
    · rw [if_neg q]; exact h2 j j1 j2
  · refine Int.le_trans (pW_le (A := A) (c := c) (fun j j1 j2 => ?_) 16 (by omega)).2 h6
    have sr := eSp_ran h.ok.1.2.2 j j1 j2
    unfold eSp aKind aSpan at sr ⊢
    rw [e90, eo 91 (by omega)]
    by_cases q : j = s
    · rw [if_pos q, if_pos rfl]; omega
    · rw [if_neg q]; omega
theorem cIn_put {A : pM} {c s k p e : Int} (h : cIn A c) (hs : 0 ≤ s ∧ s ≤ 15) (hk : 0 ≤ k ∧ k ≤ 5) (hp : 1 ≤ p ∧ p ≤ (if k = 5 then 1 else 6)) (he : 0 ≤ e ∧ e ≤ 5) (hr : s % 4 < A 89 (4 * c + s / 4)) (hw : pW (rStand A (16 * c + s) k p e) c 16 ≤ 1024) : cIn (rStand A (16 * c + s) k p e) c := by
  obtain ⟨h1, h2, h3, h4, h5, h6⟩ := id h
  have eo : ∀ a, (a < 90 ∨ 93 < a) → rStand A (16 * c + s) k p e a = A a := fun a q => by unfold rStand; rw [wr_a _ _ _ (by omega), wr_a _ _ _ (by omega), wr_a _ _ _ (by omega), wr_a _ _ _ (by omega)]
  refine ⟨by rw [eo 89 (by omega)]; exact h1, fun j j1 j2 => ?_, by rw [eo 94 (by omega), eo 95 (by omega), eo 96 (by omega), eo 97 (by omega), eo 98 (by omega)]; exact h3, by rw [eo 99 (by omega)]; exact h4, by rw [eo 100 (by omega)]; exact h5, hw⟩
  rw [eo 89 (by omega), rSt_v, rSt_v, rSt_v, rSt_v]
  by_cases q : j = s
  · subst q
    rw [if_pos rfl, if_pos rfl, if_pos rfl, if_pos rfl]
    simp only [if_true, if_false, Nat.reduceEqDiff]
    right
    by_cases w : k = 5
    · rw [if_pos w] at hp; omega
    · rw [if_neg w] at hp; omega
  · rw [if_neg (show ¬ (16 * c + j = 16 * c + s) by omega), if_neg (show ¬ (16 * c + j = 16 * c + s) by omega), if_neg (show ¬ (16 * c + j = 16 * c + s) by omega), if_neg (show ¬ (16 * c + j = 16 * c + s) by omega)]
    exact h2 j j1 j2
theorem cIn_pk {m : pM} {c k : Int} (h1 : pPK m c) (h3 : cPK m c k) (hk : 0 ≤ k ∧ k ≤ 6) (h4 : 0 ≤ m 99 c ∧ m 99 c ≤ 99) (h5 : -1 ≤ m 100 c ∧ m 100 c ≤ 15) : cIn m c := by
  have hw := pPK_w h1
  refine ⟨fun r r1 r2 => by rw [h1.1 r r1 r2]; split <;> omega, fun s s1 s2 => ?_, ⟨by rw [h3.1]; omega, fun j j1 j2 => ?_⟩, h4, h5, by omega⟩
  · rcases h1.2 s s1 s2 with q | q
    · exact Or.inl q
    · right
      have hd := q.1
      unfold isD at hd
      have hr := h1.1 (s / 4) (by omega) (by omega)
      rw [if_pos (by omega)] at hr
      rw [hr]
      omega
  · rw [h3.1] at j2
    have a := h3.2 j j1 j2
    exact ⟨by omega, by omega, by omega, a.2.2.2⟩
