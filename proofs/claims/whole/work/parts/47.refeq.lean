/-! ===== memories that agree on the reference, but for what was met last ===== -/
def EQ (P : Nat → Prop) (m m' : pM) : Prop := (∀ a, 88 ≤ a → a ≤ 122 → P a) ∧ ∀ a, P a → a ≠ 105 → ∀ k, (a = 88 → k ≠ 23) → m' a k = m a k
theorem EQ.a {P : Nat → Prop} {m m' : pM} (h : EQ P m m') {a : Nat} (h1 : 89 ≤ a) (h2 : a ≤ 122) (h3 : a ≠ 105 := by omega) : m' a = m a := funext fun k => h.2 a (h.1 a (by omega) h2) h3 k (by omega)
theorem EQ.f {P : Nat → Prop} {m m' : pM} (h : EQ P m m') {k : Int} (h1 : k ≠ 23) : m' 88 k = m 88 k := h.2 88 (h.1 88 (by omega) (by omega)) (by omega) k (fun _ => h1)
theorem EQ.rf {P : Nat → Prop} (hP : ∀ a, 88 ≤ a → a ≤ 122 → P a) (m : pM) : EQ P m m := ⟨hP, fun _ _ _ _ _ => rfl⟩
theorem EQ.sy {P : Nat → Prop} {m m' : pM} (h : EQ P m m') : EQ P m' m := ⟨h.1, fun a h1 h2 k h3 => (h.2 a h1 h2 k h3).symm⟩
theorem EQ.tr {P : Nat → Prop} {m m' m2 : pM} (h : EQ P m m') (g : EQ P m' m2) : EQ P m m2 := ⟨h.1, fun a h1 h2 k h3 => (g.2 a h1 h2 k h3).trans (h.2 a h1 h2 k h3)⟩
theorem EQ.w {P : Nat → Prop} {m m' : pM} (h : EQ P m m') (b : Nat) (j x : Int) : EQ P (wr m b j x) (wr m' b j x) := ⟨h.1, fun a h1 h2 k h3 => by
  unfold wr
  split
  · rfl
  · exact h.2 a h1 h2 k h3⟩
theorem EQ.z {P : Nat → Prop} (hP : ∀ a, 88 ≤ a → a ≤ 122 → P a) (m : pM) (z : Int) : EQ P m (wr m 88 23 z) := ⟨hP, fun a h1 h2 k h3 => by
  unfold wr
  rw [if_neg (fun q => h3 q.1 q.2)]⟩
theorem EQ.fi {P : Nat → Prop} {m m' : pM} (h : EQ P m m') (b : Nat) (lo n x : Int) : EQ P (fiM m b lo n x) (fiM m' b lo n x) := ⟨h.1, fun a h1 h2 k h3 => by
  unfold fiM
  split
  · rfl
  · exact h.2 a h1 h2 k h3⟩
theorem EQ.bc {P : Nat → Prop} {m m' : pM} (h : EQ P m m') (b : Nat) (lo n : Int) (g : Int → Int) : EQ P (bcM m b lo n g) (bcM m' b lo n g) := ⟨h.1, fun a h1 h2 k h3 => by
  unfold bcM
  split
  · rfl
  · exact h.2 a h1 h2 k h3⟩
theorem EQ.bk {P : Nat → Prop} {m m' : pM} (h : EQ P m m') (src : Nat → Int → Int) (c : Int) : EQ P (blkF m src c) (blkF m' src c) := ⟨h.1, fun a h1 h2 k h3 => by
  unfold blkF blk
  split
  · rfl
  · exact h.2 a h1 h2 k h3⟩
theorem EQ.s {P : Nat → Prop} {m m' : pM} (h : EQ P m m') : sSame m m' := fun a h1 h2 _ => h.a h1 (by omega)
theorem EQ.at {P : Nat → Prop} {m m' : pM} (h : EQ P m m') (c : Int) : aAt m' c = aAt m c := by funext s; show m' 92 _ = m 92 _; rw [h.a (by omega) (by omega)]
theorem EQ.st {P : Nat → Prop} {m m' : pM} (h : EQ P m m') (x k p e : Int) : EQ P (rStand m x k p e) (rStand m' x k p e) := (((h.w _ _ _).w _ _ _).w _ _ _).w _ _ _
theorem EQ.mo {P : Nat → Prop} {m m' : pM} (h : EQ P m m') (c a l k : Int) : EQ P (rMore m c a l k) (rMore m' c a l k) := by
  unfold rMore
  rw [h.a (a := 94) (by omega) (by omega)]
  exact ((((h.w _ _ _).w _ _ _).w _ _ _).fi _ _ _ _).w _ _ _
theorem EQ.p1 {P : Nat → Prop} {m m' : pM} (h : EQ P m m') (c k : Int) : EQ P (stP m c k) (stP m' c k) := by
  unfold stP
  rw [h.f (k := 21) (by omega)]
  exact (h.w _ _ _).st _ _ _ _
theorem EQ.pn {P : Nat → Prop} {m m' : pM} (h : EQ P m m') (c : Int) (k : Nat) : EQ P (nst m c k) (nst m' c k) := by
  induction k with
  | zero => exact h
  | succ k ih => exact ih.p1 c k
theorem EQ.tr1 {P : Nat → Prop} {m m' : pM} (h : EQ P m m') (q : Int) (k : Nat) (N : Int) (i : Nat) : EQ P (trG m q k N i) (trG m' q k N i) := by
  induction i with
  | zero => exact h
  | succ i ih =>
    unfold trG
    rw [ih.f (k := 21) (by omega)]
    split
    · exact ih.w _ _ _
    · exact (ih.w _ _ _).w _ _ _
theorem EQ.c1 {P : Nat → Prop} {m m' : pM} (h : EQ P m m') (c : Int) (k : Nat) : EQ P (cdS m c k) (cdS m' c k) := by
  have e1 : cdX m' k = cdX m k := by unfold cdX; rw [h.f (k := 21) (by omega)]
  have e2 : cdA m' k = cdA m k := by unfold cdA; rw [h.f (k := 21) (by omega)]
  have e3 : cdL m' k = cdL m k := by unfold cdL; rw [e1]
  have e4 : cdN m' c k = cdN m c k := by unfold cdN; rw [e3, h.a (a := 90) (by omega) (by omega), h.a (a := 91) (by omega) (by omega)]
  have e5 : EQ P (cdM m c k) (cdM m' c k) := by unfold cdM; rw [e1, e2, e3, e4]; exact (h.w _ _ _).mo _ _ _ _
  unfold cdS
  rw [e4, h.a (a := 94) (by omega) (by omega)]
  exact e5.tr1 _ _ _ _
theorem EQ.cn {P : Nat → Prop} {m m' : pM} (h : EQ P m m') (c : Int) (k : Nat) : EQ P (ncd m c k) (ncd m' c k) := by
  induction k with
  | zero => exact h
  | succ k ih => exact ih.c1 c k
theorem EQ.by1 {P : Nat → Prop} {m m' : pM} (h : EQ P m m') (c x : Int) : EQ P (byM m c x) (byM m' c x) := by
  unfold byM by0
  exact ((((h.bc _ _ _ _).fi _ _ _ _).w _ _ _).w _ _ _ |>.pn c 4).cn c 6
theorem EQ.cm {P : Nat → Prop} {m m' : pM} (h : EQ P m m') (u lay fr by' op : Int) : EQ P (cmB m u lay fr by' op) (cmB m' u lay fr by' op) := by
  unfold cmB
  rw [h.a (a := 109) (by omega) (by omega)]
  split
  · exact h
  · unfold cmN
    rw [h.f (k := 34) (by omega), h.f (k := 36) (by omega)]
    exact (((((((h.w _ _ _).w _ _ _).w _ _ _).w _ _ _).w _ _ _).w _ _ _).w _ _ _).w _ _ _
theorem EQ.num {P : Nat → Prop} {m m' : pM} (h : EQ P m m') (c : Int) : aNum m' c 16 = aNum m c 16 := by rw [aNum_V h.s c (v := aAt m c) (fun s _ _ => by rw [h.at]) 16 (by omega), aNum_v m c 16 (by omega)]
theorem EQ.bg {P : Nat → Prop} {m m' : pM} (h : EQ P m m') (c : Int) : EQ P (bgB m c) (bgB m' c) := by
  unfold bgB
  rw [h.num, oRes_s h.s, h.at]
  refine EQ.w (EQ.cm ?_ _ _ _ _ _) _ _ _
  unfold bgQ
  exact ((((((((h.w _ _ _).w _ _ _).w _ _ _).w _ _ _).w _ _ _).w _ _ _).w _ _ _).fi _ _ _ _).w _ _ _
theorem EQ.ld {P : Nat → Prop} {b b' : pM} (h : EQ P b b') {m m' : pM} (hs : sSame m m') (c tk x mv : Int) : EQ P (ldB m c b tk x mv) (ldB m' c b' tk x mv) := by
  unfold ldB
  rw [mvN_s hs, opN_s hs, h.a (a := 109) (by omega) (by omega)]
  split
  · exact h.w _ _ _
  · have e := h.cm (mvN m c x mv) (b 109 x + 1) tk mv (opN m c (mvN m c x mv))
    rw [e.a (a := 110) (by omega) (by omega)]
    exact e.w _ _ _
theorem EQ.lm {P : Nat → Prop} {b b' : pM} (h : EQ P b b') {m m' : pM} (hs : sSame m m') (c tk x : Int) (k : Nat) : EQ P (lmB m c b tk x k) (lmB m' c b' tk x k) := by
  induction k with
  | zero => exact h
  | succ k ih => exact ih.ld hs c tk x k
theorem EQ.tk {P : Nat → Prop} {b b' : pM} (h : EQ P b b') {m m' : pM} (hs : sSame m m') (c : Int) : EQ P (tkB m c b) (tkB m' c b') := by
  unfold tkB
  rw [h.f (k := 35) (by omega), h.a (a := 108) (by omega) (by omega)]
  exact (h.lm hs c _ _ 38).w _ _ _
theorem EQ.go1 {P : Nat → Prop} {b b' : pM} (h : EQ P b b') {m m' : pM} (hs : sSame m m') (c : Int) (f : Nat) : EQ P (goB m c f b) (goB m' c f b') := by
  induction f generalizing b b' with
  | zero => exact h
  | succ f ih =>
    rw [goB_succ, goB_succ, h.f (k := 34) (by omega), h.f (k := 35) (by omega)]
    split
    · exact ih (h.tk hs c)
    · exact h
theorem EQ.go {P : Nat → Prop} {m m' : pM} (h : EQ P m m') (c k : Int) : EQ P (goR m c k) (goR m' c k) := by
  unfold goR
  exact (((h.w _ _ _).go1 h.s c _).w _ _ _).w _ _ _
theorem EQ.cOk {P : Nat → Prop} {m m' : pM} (h : EQ P m m') {c : Int} (hc : cOkR m c) : cOkR m' c := cOkR_s h.s (h.a (by omega) (by omega)) hc
theorem EQ.GI1 {P : Nat → Prop} {m m' : pM} (h : EQ P m m') {c : Int} (hc : GI m c m) : GI m' c m' := GI_m h.s (GI_c hc (fun a h1 h2 => h.a (by omega) (by omega)) (h.f (by omega)) (h.f (by omega)) (h.f (by omega)))
theorem EQ.SI1 {P : Nat → Prop} {m m' : pM} (h : EQ P m m') (hs : SI m) : SI m' := by
  unfold SI SIs
  rw [h.a (a := 108) (by omega) (by omega), h.a (a := 109) (by omega) (by omega), h.a (a := 110) (by omega) (by omega), h.a (a := 112) (by omega) (by omega), h.a (a := 114) (by omega) (by omega), h.f (k := 34) (by omega), h.f (k := 35) (by omega), h.f (k := 36) (by omega), h.f (k := 31) (by omega)]
  exact hs
/-! what begin leaves -/
theorem bgQ_i (m : pM) (c : Int) : GI m c (bgQ m c) := by
  have f8 := bgQ_88 m c
  have e34 := f8.2.2.2.1
  have e35 := f8.2.2.2.2.1
  have e36 := f8.2.2.2.2.2.1
  refine ⟨⟨⟨by omega, fun k k1 k2 => absurd k2 (by omega), fun x x1 x2 => Or.inl ?_, fun k k1 k2 => absurd k2 (by omega), fun e e1 e2 => absurd e2 (by omega)⟩, fun k k1 k2 => absurd k2 (by omega), fun k k1 k2 => absurd k2 (by omega), Or.inl ⟨e36, fun k k1 k2 => absurd k2 (by omega)⟩⟩, fun k k1 k2 => absurd k2 (by omega)⟩
  unfold bgQ
  rw [wr_a _ _ _ (by omega)]
  unfold fiM
  rw [if_pos ⟨rfl, by omega, by omega⟩]
theorem bgB_i {m : pM} {c : Int} (hs : cOkR m c) : GI m c (bgB m c) := by
  have hn := aNum_ran hs.1.2.2 hs.2.1 16 (by omega)
  have e : oRes m c (aAt m c) = opN m c (aNum m c 16) := by rw [aNum_v m c 16 (by omega)]; exact (opN_num hs.1 hs.2.1).symm
  have f8 := bgQ_88 m c
  unfold bgB
  rw [e]
  have hJ := GJ_cm (fr := -1) (by' := -1) (bgQ_i m c).1 hs.2.2 (show 0 ≤ aNum m c 16 ∧ aNum m c 16 < pW m c 16 by omega) (Or.inl rfl)
  have hF := cmB_F (bgQ m c) (aNum m c 16) 0 (-1) (-1) (opN m c (aNum m c 16))
  refine GI_c (b := cmB (bgQ m c) (aNum m c 16) 0 (-1) (-1) (opN m c (aNum m c 16))) ⟨hJ, fun k k1 k2 => ?_⟩ (fun a h1 h2 => wr_a _ _ _ (by omega)) (wr_k _ _ _ _ (by omega)) (wr_k _ _ _ _ (by omega)) (wr_k _ _ _ _ (by omega))
  rw [hF.2.1, f8.2.2.2.2.1] at k2; omega
theorem bgQ_9 {m : pM} {c : Int} (hs : cOkR m c) : bgQ m c 109 (aNum m c 16) = -1 := by
  have hn := aNum_ran hs.1.2.2 hs.2.1 16 (by omega)
  have h2 := hs.2.2
  unfold bgQ
  rw [wr_a _ _ _ (by omega)]
  unfold fiM
  rw [if_pos ⟨rfl, by omega, by omega⟩]
theorem bgB_34 {m : pM} {c : Int} (hs : cOkR m c) : bgB m c 88 34 = 1 := by
  unfold bgB
  rw [wr_k _ _ _ _ (by omega)]
  unfold cmB; rw [if_neg (fun z => z (bgQ_9 hs)), (cmN_v _ _ _ _ _ _).2.2.2.2.2.2.1, (bgQ_88 m c).2.2.2.1]; rfl
theorem bgB_v (m : pM) (c : Int) : (∀ a, a ≠ 88 → (a < 108 ∨ 114 < a) → bgB m c a = m a) ∧ bgB m c 88 31 = 1 ∧ bgB m c 88 32 = 0 ∧ bgB m c 88 33 = c ∧ bgB m c 88 35 = 0 ∧ bgB m c 88 44 = 0 ∧ bgB m c 88 3 = 0 ∧ (∀ k, k ≠ 3 → k ≠ 31 → k ≠ 32 → k ≠ 33 → k ≠ 34 → k ≠ 35 → k ≠ 36 → k ≠ 44 → bgB m c 88 k = m 88 k) := by
  have f8 := bgQ_88 m c
  have hF := cmB_F (bgQ m c) (aNum m c 16) 0 (-1) (-1) (oRes m c (aAt m c))
  unfold bgB
  refine ⟨fun a h1 h2 => ?_, ?_, ?_, ?_, ?_, ?_, ?_, fun k h1 h2 h3 h4 h5 h6 h7 h8 => ?_⟩
  · rw [wr_a _ _ _ h1, hF.1.1 a h1 h2, bgQ_a m c a h1 (by omega)]
  · rw [wr_k _ _ _ _ (by omega), hF.1.2 31 (by omega) (by omega) (by omega)]; exact f8.1
  · rw [wr_k _ _ _ _ (by omega), hF.1.2 32 (by omega) (by omega) (by omega)]; exact f8.2.1
  · rw [wr_k _ _ _ _ (by omega), hF.1.2 33 (by omega) (by omega) (by omega)]; exact f8.2.2.1
  · rw [wr_k _ _ _ _ (by omega), hF.2.1]; exact f8.2.2.2.2.1
  · rw [wr_k _ _ _ _ (by omega), hF.1.2 44 (by omega) (by omega) (by omega)]; exact f8.2.2.2.2.2.2.1
  · rw [wr_s]
  · rw [wr_k _ _ _ _ h1, hF.1.2 k h5 h6 h7]; exact f8.2.2.2.2.2.2.2.2 k h1 h2 h3 h4 h5 h6 h7 h8
