/-! ===== how far: going from all that are open against the moves ===== -/
/-- F tells how far: R from to, Op who is open, N many -/
def SpF (R : Int → Int → Prop) (Op : Int → Int) (N : Int) (F : Int → Int) : Prop := (∀ o, 0 ≤ o → o < N → -1 ≤ F o ∧ (F o = 0 ↔ Op o ≠ 0)) ∧ (∀ o, 0 ≤ o → o < N → 1 ≤ F o → ∃ q, 0 ≤ q ∧ q < N ∧ R o q ∧ F q = F o - 1) ∧ ∀ o q, 0 ≤ o → o < N → 0 ≤ q → q < N → R o q → 0 ≤ F q → 0 ≤ F o ∧ F o ≤ F q + 1
theorem SpF.le {R : Int → Int → Prop} {Op : Int → Int} {N : Int} {F G : Int → Int} (hF : SpF R Op N F) (hG : SpF R Op N G) (k : Nat) : ∀ o, 0 ≤ o → o < N → G o = k → 0 ≤ F o ∧ F o ≤ k := by
  induction k with
  | zero =>
    intro o h1 h2 h3
    have a := ((hG.1 o h1 h2).2).mp h3
    have b := ((hF.1 o h1 h2).2).mpr a
    omega
  | succ k ih =>
    intro o h1 h2 h3
    obtain ⟨q, q1, q2, q3, q4⟩ := hG.2.1 o h1 h2 (by omega)
    have a := ih q q1 q2 (by omega)
    have b := hF.2.2 o q h1 h2 q1 q2 q3 a.1
    omega
theorem SpF.eq {R : Int → Int → Prop} {Op : Int → Int} {N : Int} {F G : Int → Int} (hF : SpF R Op N F) (hG : SpF R Op N G) (o : Int) (h1 : 0 ≤ o) (h2 : o < N) : F o = G o := by
  have a := (hF.1 o h1 h2).1
  have b := (hG.1 o h1 h2).1
  by_cases e : G o = -1
  · by_cases f : F o = -1
    · omega
    · have := hG.le hF (F o).toNat o h1 h2 (by omega); omega
  · have c := hF.le hG (G o).toNat o h1 h2 (by omega)
    have d := hG.le hF (F o).toNat o h1 h2 (by omega)
    omega
theorem SpF.r {R R2 : Int → Int → Prop} {Op : Int → Int} {N : Int} {F : Int → Int} (hF : SpF R Op N F) (h : ∀ o q, 0 ≤ o → o < N → 0 ≤ q → q < N → o ≠ q → (R o q ↔ R2 o q)) : SpF R2 Op N F := by
  refine ⟨hF.1, fun o h1 h2 h3 => ?_, fun o q h1 h2 h3 h4 h5 h6 => ?_⟩
  · obtain ⟨q, q1, q2, q3, q4⟩ := hF.2.1 o h1 h2 h3
    exact ⟨q, q1, q2, (h o q h1 h2 q1 q2 (fun e => by subst e; omega)).mp q3, q4⟩
  · by_cases e : o = q
    · subst e; omega
    · exact hF.2.2 o q h1 h2 h3 h4 ((h o q h1 h2 h3 h4 e).mpr h5) h6
theorem SpF.n {R : Int → Int → Prop} {Op Op2 : Int → Int} {N : Int} {F G : Int → Int} (hF : SpF R Op N F) (h : ∀ o, 0 ≤ o → o < N → G o = F o ∧ (Op o ≠ 0 ↔ Op2 o ≠ 0)) : SpF R Op2 N G := by
  refine ⟨fun o h1 h2 => ?_, fun o h1 h2 h3 => ?_, fun o q h1 h2 h3 h4 h5 h6 => ?_⟩
  · rw [(h o h1 h2).1, ← (h o h1 h2).2]; exact hF.1 o h1 h2
  · rw [(h o h1 h2).1] at h3 ⊢
    obtain ⟨q, q1, q2, q3, q4⟩ := hF.2.1 o h1 h2 h3
    exact ⟨q, q1, q2, q3, by rw [(h q q1 q2).1]; exact q4⟩
  · rw [(h q h3 h4).1] at h6 ⊢
    rw [(h o h1 h2).1]
    exact hF.2.2 o q h1 h2 h3 h4 h5 h6
/-- the going: queue Q, its places up to e, those before a done -/
def BF (R : Int → Int → Prop) (Op : Int → Int) (N : Int) (F Q : Int → Int) (a e : Int) : Prop :=
  (0 ≤ a ∧ a ≤ e ∧ e ≤ N) ∧ (∀ i, 0 ≤ i → i < e → 0 ≤ Q i ∧ Q i < N ∧ 0 ≤ F (Q i)) ∧ (∀ i j, 0 ≤ i → i < e → 0 ≤ j → j < e → Q i = Q j → i = j) ∧
  (∀ o, 0 ≤ o → o < N → F o = -1 ∨ ∃ i, 0 ≤ i ∧ i < e ∧ Q i = o) ∧ (∀ i j, 0 ≤ i → i ≤ j → j < e → F (Q i) ≤ F (Q j)) ∧ (∀ j, 0 ≤ j → j < e → a < e → F (Q j) ≤ F (Q a) + 1) ∧
  (∀ o, 0 ≤ o → o < N → (F o = 0 ↔ Op o ≠ 0)) ∧ (∀ o, 0 ≤ o → o < N → 1 ≤ F o → ∃ q, 0 ≤ q ∧ q < N ∧ R o q ∧ F q = F o - 1) ∧
  (∀ i, 0 ≤ i → i < a → ∀ o, 0 ≤ o → o < N → R o (Q i) → F o ≠ -1 ∧ F o ≤ F (Q i) + 1)
theorem BF_room {R : Int → Int → Prop} {Op : Int → Int} {N : Int} {F Q : Int → Int} {a e : Int} (h : BF R Op N F Q a e) {x : Int} (h1 : 0 ≤ x) (h2 : x < N) (hx : F x = -1) : e < N := by
  obtain ⟨hb, hq, hi, -⟩ := h
  have nx : ∀ i, 0 ≤ i → i < e → Q i ≠ x := fun i i1 i2 z => by have := hq i i1 i2; rw [z] at this; omega
  have := pige N.toNat (e.toNat + 1) (fun i => if i < e.toNat then (Q (i : Int)).toNat else x.toNat) (fun i hi2 => by
    show (if i < e.toNat then (Q (i : Int)).toNat else x.toNat) < N.toNat
    split
    · have := hq i (by omega) (by omega); omega
    · omega) (fun i j i1 j1 z => by
    have z2 : (if i < e.toNat then (Q (i : Int)).toNat else x.toNat) = (if j < e.toNat then (Q (j : Int)).toNat else x.toNat) := z
    split at z2 <;> split at z2
    · have a1 := hq i (by omega) (by omega)
      have a2 := hq j (by omega) (by omega)
      have := hi i j (by omega) (by omega) (by omega) (by omega) (by omega)
      omega
    · have a1 := hq i (by omega) (by omega)
      exact absurd (show Q i = x by omega) (nx i (by omega) (by omega))
    · have a1 := hq j (by omega) (by omega)
      exact absurd (show Q j = x by omega) (nx j (by omega) (by omega))
    · omega)
  omega
theorem BF_push {R : Int → Int → Prop} {Op : Int → Int} {N : Int} {F Q : Int → Int} {a e : Int} (h : BF R Op N F Q a e) (ha : a < e) {x : Int} (h1 : 0 ≤ x) (h2 : x < N) (hx : F x = -1) (hR : R x (Q a)) : e < N ∧ BF R Op N (vUp F x (F (Q a) + 1)) (vUp Q e x) a (e + 1) := by
  have hr := BF_room h h1 h2 hx
  obtain ⟨hb, hq, hi, hall, hmo, hne, hop, hst, hdo⟩ := h
  have nx : ∀ i, 0 ≤ i → i < e → Q i ≠ x := fun i i1 i2 z => by have := hq i i1 i2; rw [z] at this; omega
  have qa := hq a hb.1 ha
  have eQ : ∀ i, i < e → vUp Q e x i = Q i := fun i i1 => if_neg (by omega)
  have eQe : vUp Q e x e = x := if_pos rfl
  have eF : ∀ o, o ≠ x → vUp F x (F (Q a) + 1) o = F o := fun o o1 => if_neg o1
  have eFx : vUp F x (F (Q a) + 1) x = F (Q a) + 1 := if_pos rfl
  have eFQ : ∀ i, 0 ≤ i → i < e → vUp F x (F (Q a) + 1) (vUp Q e x i) = F (Q i) := fun i i1 i2 => by rw [eQ i i2, eF _ (nx i i1 i2)]
  have eFe : vUp F x (F (Q a) + 1) (vUp Q e x e) = F (Q a) + 1 := by rw [eQe, eFx]
  refine ⟨hr, by omega, fun i i1 i2 => ?_, fun i j i1 i2 j1 j2 z => ?_, fun o o1 o2 => ?_, fun i j i1 ij j2 => ?_, fun j j1 j2 _ => ?_, fun o o1 o2 => ?_, fun o o1 o2 o3 => ?_, fun i i1 i2 o o1 o2 o3 => ?_⟩
  · by_cases q : i < e
    · rw [eFQ i i1 q, eQ i q]; exact hq i i1 q
    · have : i = e := by omega
      subst this
      rw [eFe, eQe]; omega
  · by_cases q : i < e <;> by_cases q2 : j < e
    · rw [eQ i q, eQ j q2] at z; exact hi i j i1 q j1 q2 z
    · have : j = e := by omega
      subst this
      rw [eQ i q, eQe] at z; exact absurd z (nx i i1 q)
    · have : i = e := by omega
      subst this
      rw [eQ j q2, eQe] at z; exact absurd z.symm (nx j j1 q2)
    · omega
  · by_cases q : o = x
    · exact Or.inr ⟨e, by omega, by omega, by rw [eQe, q]⟩
    · rw [eF o q]
      rcases hall o o1 o2 with w | ⟨i, i1, i2, i3⟩
      · exact Or.inl w
      · exact Or.inr ⟨i, i1, by omega, by rw [eQ i i2]; exact i3⟩
  · by_cases q2 : j < e
    · rw [eFQ i i1 (by omega), eFQ j (by omega) q2]; exact hmo i j i1 ij q2
    · have : j = e := by omega
      subst this
      rw [eFe]
      by_cases q : i < j
      · rw [eFQ i i1 q]; exact hne i i1 q ha
      · have : i = j := by omega
        subst this
        rw [eFe]; omega
  · rw [eFQ a hb.1 ha]
    by_cases q2 : j < e
    · rw [eFQ j j1 q2]; exact hne j j1 q2 ha
    · have : j = e := by omega
      subst this
      rw [eFe]; omega
  · by_cases q : o = x
    · subst q
      rw [eFx]
      have := hop o o1 o2
      constructor
      · intro z; omega
      · intro z; have := this.mpr z; omega
    · rw [eF o q]; exact hop o o1 o2
  · by_cases q : o = x
    · subst q
      refine ⟨Q a, qa.1, qa.2.1, hR, ?_⟩
      rw [eFx, eF _ (nx a hb.1 ha)]; omega
    · rw [eF o q] at o3 ⊢
      obtain ⟨p, p1, p2, p3, p4⟩ := hst o o1 o2 o3
      exact ⟨p, p1, p2, p3, by rw [eF p (fun z => by subst z; omega)]; exact p4⟩
  · rw [eQ i (by omega)] at o3
    have w := hdo i i1 i2 o o1 o2 o3
    rw [eFQ i i1 (by omega), eF o (fun z => by subst z; omega)]
    exact w
theorem BF_next {R : Int → Int → Prop} {Op : Int → Int} {N : Int} {F Q : Int → Int} {a e : Int} (h : BF R Op N F Q a e) (ha : a < e) (hd : ∀ o, 0 ≤ o → o < N → R o (Q a) → F o ≠ -1) : BF R Op N F Q (a + 1) e := by
  obtain ⟨hb, hq, hi, hall, hmo, hne, hop, hst, hdo⟩ := h
  refine ⟨by omega, hq, hi, hall, hmo, fun j j1 j2 j3 => ?_, hop, hst, fun i i1 i2 o o1 o2 o3 => ?_⟩
  · have := hne j j1 j2 ha
    have := hmo a (a + 1) hb.1 (by omega) j3
    omega
  · by_cases q : i < a
    · exact hdo i i1 q o o1 o2 o3
    · have : i = a := by omega
      subst this
      have w := hd o o1 o2 o3
      refine ⟨w, ?_⟩
      rcases hall o o1 o2 with z | ⟨j, j1, j2, j3⟩
      · exact absurd z w
      · rw [← j3]; exact hne j j1 j2 ha
theorem BF_end {R : Int → Int → Prop} {Op : Int → Int} {N : Int} {F Q : Int → Int} {e : Int} (h : BF R Op N F Q e e) : SpF R Op N F := by
  obtain ⟨hb, hq, hi, hall, hmo, hne, hop, hst, hdo⟩ := h
  have ge : ∀ o, 0 ≤ o → o < N → F o ≠ -1 → 0 ≤ F o ∧ ∃ i, 0 ≤ i ∧ i < e ∧ Q i = o := fun o o1 o2 o3 => by
    rcases hall o o1 o2 with z | ⟨j, j1, j2, j3⟩
    · exact absurd z o3
    · have := hq j j1 j2; rw [j3] at this; exact ⟨this.2.2, j, j1, j2, j3⟩
  refine ⟨fun o o1 o2 => ⟨?_, hop o o1 o2⟩, hst, fun o q o1 o2 q1 q2 r f => ?_⟩
  · by_cases z : F o = -1
    · omega
    · have := ge o o1 o2 z; omega
  · obtain ⟨-, i, i1, i2, i3⟩ := ge q q1 q2 (by omega)
    have w := hdo i i1 i2 o o1 o2 (by rw [i3]; exact r)
    have := ge o o1 o2 w.1
    rw [i3] at w
    omega
/-- at the beginning: the first k looked at -/
def BI (Op : Int → Int) (N : Int) (Q : Int → Int) (k e : Int) : Prop :=
  (0 ≤ e ∧ e ≤ k ∧ k ≤ N) ∧ (∀ i, 0 ≤ i → i < e → 0 ≤ Q i ∧ Q i < k ∧ Op (Q i) ≠ 0) ∧ (∀ i j, 0 ≤ i → i < j → j < e → Q i < Q j) ∧
  (∀ o, 0 ≤ o → o < k → Op o ≠ 0 → ∃ i, 0 ≤ i ∧ i < e ∧ Q i = o)
theorem BI_0 {Op : Int → Int} {N : Int} {Q : Int → Int} (h : 0 ≤ N) : BI Op N Q 0 0 := ⟨by omega, fun i i1 i2 => absurd i2 (by omega), fun i j i1 i2 i3 => absurd i3 (by omega), fun o o1 o2 => absurd o2 (by omega)⟩
theorem BI_no {Op : Int → Int} {N : Int} {Q : Int → Int} {k e : Int} (h : BI Op N Q k e) (hk : k < N) (ho : Op k = 0) : BI Op N Q (k + 1) e := by
  obtain ⟨h1, h2, h3, h4⟩ := h
  refine ⟨by omega, fun i i1 i2 => ?_, h3, fun o o1 o2 o3 => h4 o o1 (by have : o ≠ k := fun z => o3 (by rw [z]; exact ho); omega) o3⟩
  have := h2 i i1 i2
  exact ⟨this.1, by omega, this.2.2⟩
theorem BI_yes {Op : Int → Int} {N : Int} {Q : Int → Int} {k e : Int} (h : BI Op N Q k e) (hk : k < N) (ho : Op k ≠ 0) : BI Op N (vUp Q e k) (k + 1) (e + 1) := by
  obtain ⟨h1, h2, h3, h4⟩ := h
  have eQ : ∀ i, i < e → vUp Q e k i = Q i := fun i i1 => if_neg (by omega)
  have eQe : vUp Q e k e = k := if_pos rfl
  refine ⟨by omega, fun i i1 i2 => ?_, fun i j i1 i2 i3 => ?_, fun o o1 o2 o3 => ?_⟩
  · by_cases q : i < e
    · rw [eQ i q]; have := h2 i i1 q; exact ⟨this.1, by omega, this.2.2⟩
    · have : i = e := by omega
      subst this
      rw [eQe]; exact ⟨by omega, by omega, ho⟩
  · rw [eQ i (by omega)]
    by_cases q : j < e
    · rw [eQ j q]; exact h3 i j i1 i2 q
    · have : j = e := by omega
      subst this
      rw [eQe]; have := h2 i i1 i2; omega
  · by_cases q : o = k
    · exact ⟨e, by omega, by omega, by rw [eQe, q]⟩
    · obtain ⟨i, i1, i2, i3⟩ := h4 o o1 (by omega) o3
      exact ⟨i, i1, by omega, by rw [eQ i i2]; exact i3⟩
theorem BI_BF (R : Int → Int → Prop) {Op : Int → Int} {N : Int} {F Q : Int → Int} {e : Int} (h : BI Op N Q N e) (hF : ∀ o, 0 ≤ o → o < N → F o = if Op o ≠ 0 then 0 else -1) : BF R Op N F Q 0 e := by
  obtain ⟨h1, h2, h3, h4⟩ := h
  have z : ∀ i, 0 ≤ i → i < e → F (Q i) = 0 := fun i i1 i2 => by have := h2 i i1 i2; rw [hF _ this.1 this.2.1, if_pos this.2.2]
  refine ⟨by omega, fun i i1 i2 => ?_, fun i j i1 i2 j1 j2 q => ?_, fun o o1 o2 => ?_, fun i j i1 ij j2 => ?_, fun j j1 j2 j3 => ?_, fun o o1 o2 => ?_, fun o o1 o2 o3 => ?_, fun i i1 i2 => absurd i2 (by omega)⟩
  · have := h2 i i1 i2; rw [z i i1 i2]; omega
  · rcases Int.lt_trichotomy i j with w | w | w
    · have := h3 i j i1 w j2; omega
    · exact w
    · have := h3 j i j1 w i2; omega
  · by_cases w : Op o ≠ 0
    · exact Or.inr (h4 o o1 o2 w)
    · left; rw [hF o o1 o2, if_neg w]
  · rw [z i i1 (by omega), z j (by omega) j2]; omega
  · rw [z j j1 j2, z 0 (by omega) (by omega)]; omega
  · rw [hF o o1 o2]
    by_cases w : Op o ≠ 0
    · rw [if_pos w]; exact ⟨fun _ => w, fun _ => rfl⟩
    · rw [if_neg w]; exact ⟨fun y => by omega, fun y => absurd y w⟩
  · rw [hF o o1 o2] at o3; split at o3 <;> omega

/-! ===== measure, trap, traps, hint ===== -/
def rdR (m : pM) : Int → Int → Prop := fun o q => ∃ j, 0 ≤ j ∧ j < 38 ∧ m 114 (38 * o + j) = q
def HF (m : pM) : Prop := m 88 44 ≠ 0 → SpF (rdR m) (m 111) (m 88 34) (m 115)
def FrM (m m1 : pM) : Prop := (∀ a, a ≠ 88 → (a < 115 ∨ 118 < a) → m1 a = m a) ∧ (∀ k, k ≠ 44 → m1 88 k = m 88 k) ∧ m1 88 44 ≠ 0
theorem FrM.w {m m1 : pM} (h : FrM m m1) {a : Nat} (k x : Int) (ha : 115 ≤ a ∧ a ≤ 118) : FrM m (wr m1 a k x) := ⟨fun b h1 h2 => by rw [wr_a _ _ _ (by omega)]; exact h.1 b h1 h2, fun j h1 => by rw [wr_a _ _ _ (by omega)]; exact h.2.1 j h1, by rw [wr_a _ _ _ (by omega)]; exact h.2.2⟩
theorem wr_f (m : pM) (a : Nat) (k x : Int) : wr m a k x a = vUp (m a) k x := by funext j; unfold wr vUp; by_cases e : j = k <;> simp [e]
/-- the edge to k that comes last before E -/
def PE (L : Int → Int) (k E x : Int) : Prop := (x = -1 ∧ ∀ e, 0 ≤ e → e < E → L e ≠ k) ∨ (0 ≤ x ∧ x < E ∧ L x = k ∧ ∀ e, x < e → e < E → L e ≠ k)
theorem PE_0 (L : Int → Int) (k : Int) : PE L k 0 (-1) := Or.inl ⟨rfl, fun e e1 e2 => absurd e2 (by omega)⟩
theorem PE_no {L : Int → Int} {k E x : Int} (h : PE L k E x) (hE : L E ≠ k) : PE L k (E + 1) x := by
  rcases h with h | h
  · exact Or.inl ⟨h.1, fun e e1 e2 => by
      by_cases q : e = E
      · rw [q]; exact hE
      · exact h.2 e e1 (by omega)⟩
  · exact Or.inr ⟨h.1, by omega, h.2.2.1, fun e e1 e2 => by
      by_cases q : e = E
      · rw [q]; exact hE
      · exact h.2.2.2 e e1 (by omega)⟩
theorem PE_yes {L : Int → Int} {k E : Int} (h0 : 0 ≤ E) (hE : L E = k) : PE L k (E + 1) E := Or.inr ⟨h0, by omega, hE, fun e e1 e2 => absurd e2 (by omega)⟩
/-- heads and followers of all edges before E -/
def EL (L : Int → Int) (N : Int) (hd nx : Int → Int) (E : Int) : Prop := (∀ k, 0 ≤ k → k < N → PE L k E (hd k)) ∧ ∀ j, 0 ≤ j → j < E → L j ≠ -1 → PE L (L j) j (nx j)
theorem EL_no {L : Int → Int} {N : Int} {hd nx : Int → Int} {E : Int} (h : EL L N hd nx E) (hE : L E = -1) : EL L N hd nx (E + 1) := ⟨fun k k1 k2 => PE_no (h.1 k k1 k2) (by omega), fun j j1 j2 j3 => h.2 j j1 (by have : j ≠ E := fun z => j3 (by rw [z]; exact hE); omega) j3⟩
theorem EL_yes {L : Int → Int} {N : Int} {hd nx : Int → Int} {E : Int} (h : EL L N hd nx E) (h0 : 0 ≤ E) (hE : 0 ≤ L E ∧ L E < N) : EL L N (vUp hd (L E) E) (vUp nx E (hd (L E))) (E + 1) := by
  refine ⟨fun k k1 k2 => ?_, fun j j1 j2 j3 => ?_⟩
  · unfold vUp
    by_cases q : k = L E
    · rw [if_pos q]; exact PE_yes h0 q.symm
    · rw [if_neg q]; exact PE_no (h.1 k k1 k2) (fun z => q z.symm)
  · unfold vUp
    by_cases q : j = E
    · rw [if_pos q, q]; exact h.1 _ hE.1 hE.2
    · rw [if_neg q]; exact h.2 j j1 (by omega) j3
def MS (m m1 : pM) : Prop := FrM m m1 ∧ SpF (rdR m) (m 111) (m 88 34) (m1 115)
theorem BF_cap {R : Int → Int → Prop} {Op : Int → Int} {N : Int} {F Q : Int → Int} {a e : Int} (h : BF R Op N F Q a e) : ∀ (i : Nat), (i : Int) < e → F (Q i) ≤ i := by
  obtain ⟨hb, hq, hi, hall, hmo, hne, hop, hst, hdo⟩ := h
  intro i
  induction i with
  | zero =>
    intro h1
    have a1 := hq 0 (by omega) (by omega)
    by_cases z : 1 ≤ F (Q 0)
    · obtain ⟨q, q1, q2, q3, q4⟩ := hst (Q 0) a1.1 a1.2.1 z
      rcases hall q q1 q2 with w | ⟨j, j1, j2, j3⟩
      · omega
      · have := hmo 0 j (by omega) j1 j2
        rw [j3] at this; omega
    · show F (Q 0) ≤ 0; omega
  | succ i ih =>
    intro h1
    have a1 := hq ((i : Int) + 1) (by omega) (by omega)
    have h0 := ih (by omega)
    show F (Q ((i : Int) + 1)) ≤ (i : Int) + 1
    by_cases z : 1 ≤ F (Q ((i : Int) + 1))
    · obtain ⟨q, q1, q2, q3, q4⟩ := hst (Q ((i : Int) + 1)) a1.1 a1.2.1 z
      rcases hall q q1 q2 with w | ⟨j, j1, j2, j3⟩
      · omega
      · by_cases y : j ≤ i
        · have := hmo j i j1 y (by omega)
          rw [j3] at this; omega
        · have := hmo ((i : Int) + 1) j (by omega) (by omega) j2
          rw [j3] at this; omega
    · omega
set_option maxHeartbeats 4000000 in
set_option maxRecDepth 100000 in
theorem r_measure (d : Nat) (hd : 0 ≤ d) (n : Nat) (ok : pO) (mem : pM) (hU : RefUp n ok) (hS : SIs mem) (hw : mem 88 35 = mem 88 34) (hF : HF mem) : PM mi_X10_measure d [vr 88] n ok mem n (fun r ok' mem' => r = none ∧ ok = ok' ∧ MS mem mem') := by
  obtain ⟨hO, ⟨a89, a90, a91, a92, a93, a94, a95, a96, a97, a98⟩, ⟨a99, a100, a101, a102, a103, a104, a105, a106, a107⟩, ⟨a108, a109, a110, a111, a112, a113, a114, a115, a116, a117, a118, a119⟩, a120, a121, a122⟩ := id hU
  have hcap : ∀ (F Q : Int → Int) {a e : Int}, BF (rdR mem) (mem 111) (mem 88 34) F Q a e → ∀ i : Nat, (i : Int) < e → i ≤ 1024 → F (Q i) ≤ 1024 := fun F Q a e h i h1 h2 => by have := BF_cap h i h1; omega
  refine PM.of (by decide) (by decide) (Nat.le_refl _) (Nat.le_of_ble_eq_true rfl) ?_
  refine pw_aload_n 0 rfl dX10_measure_0 rfl ?_
  refine pw_gI 44 44 rfl dX10_measure_1 cOk10 (by assumption) (by decide) kw_1109 (by decide) (fun r1 => ?_)
  refine pw_if_eq 8 (by decide) dX10_measure_4 (by omega) (fun c4 => ?_) (fun c4 => ?_)
  · skip
    refine pw_aload_n 0 rfl dX10_measure_8 rfl ?_
    refine pw_iconst dX10_measure_9 ?_
    refine pw_pZ 44 44 rfl dX10_measure_10 cOk10 (by assumption) (by decide) kw_1109 rfl rfl (by decide) (by omega) ?_
    obtain ⟨m0, em0⟩ : ∃ x, x = wr mem 88 44 1 := ⟨_, rfl⟩
    rw [← em0]
    have hFr0 : FrM mem m0 := by
      rw [em0]
      exact ⟨fun a h1 _ => wr_a _ _ _ h1, fun k h1 => wr_k _ _ _ _ h1, by rw [wr_s]; omega⟩
    have hN := hS.1
    refine pw_iconst dX10_measure_13 ?_
    refine pw_istore_n 1 rfl dX10_measure_14 (by decide) ?_
    have lp15 : ∀ (kz : Nat) (i : Nat) (m1 : pM), (mem 88 34) - (i : Int) < (kz : Int) → ((i : Int) ≤ (mem 88 34)) → (FrM mem m1) → (∀ k, 0 ≤ k → k < (i : Int) → m1 116 k = -1 ∧ m1 115 k = -1) → PW mi_X10_measure d n n (fun r ok' mem' => r = none ∧ ok = ok' ∧ MS mem mem') 15 [(0, vr 88), (1, vi (i : Int))] [] n ok m1 := by
      intro kz
      induction kz with
      | zero =>
        intro i m1 hk h1 hFr hI
        exact absurd hk (by omega)
      | succ kz ih =>
        intro i m1 hk h1 hFr hI
        have q34 : m1 88 34 = mem 88 34 := hFr.2.1 34 (by omega)
        have q114 : m1 114 = mem 114 := hFr.1 114 (by omega) (by omega)
        have q111 : m1 111 = mem 111 := hFr.1 111 (by omega) (by omega)
        refine pw_iload_n 1 rfl dX10_measure_15 rfl ?_
        refine pw_aload_n 0 rfl dX10_measure_16 rfl ?_
        refine pw_gI 34 34 rfl dX10_measure_17 cOk10 (by assumption) (by decide) kw_1099 (by decide) (fun r17 => ?_)
        try simp (disch := omega) only [wr_s, wr_a, wr_k] at r17 ⊢
        rw [q34] at r17 ⊢
        refine pw_icmp_ge 43 (by decide) dX10_measure_20 (by omega) (by omega) (fun c20 => ?_) (fun c20 => ?_)
        · skip
          have hI0 : EL (mem 114) (mem 88 34) (m1 116) (m1 117) 0 := ⟨fun k k1 k2 => by rw [(hI k k1 (by omega)).1]; exact PE_0 _ _, fun j j1 j2 => absurd j2 (by omega)⟩
          have hfar : ∀ k, 0 ≤ k → k < (mem 88 34) → m1 115 k = -1 := fun k k1 k2 => (hI k k1 (by omega)).2
          clear hI
          refine pw_iconst dX10_measure_43 ?_
          refine pw_istore_n 1 rfl dX10_measure_44 (by decide) ?_
          have lp45 : ∀ (kz2 : Nat) (i : Nat) (m1 : pM), 38 * (mem 88 34) - (i : Int) < (kz2 : Int) → ((i : Int) ≤ 38 * (mem 88 34)) → (FrM mem m1) → (∀ k, 0 ≤ k → k < (mem 88 34) → m1 115 k = -1) → (EL (mem 114) (mem 88 34) (m1 116) (m1 117) (i : Int)) → PW mi_X10_measure d n n (fun r ok' mem' => r = none ∧ ok = ok' ∧ MS mem mem') 45 [(0, vr 88), (1, vi (i : Int))] [] n ok m1 := by
            intro kz2
            induction kz2 with
            | zero =>
              intro i m1 hk2 h1 hFr hfar hE
              exact absurd hk2 (by omega)
            | succ kz2 ih2 =>
              intro i m1 hk2 h1 hFr hfar hE
              have q34 : m1 88 34 = mem 88 34 := hFr.2.1 34 (by omega)
              have q114 : m1 114 = mem 114 := hFr.1 114 (by omega) (by omega)
              have q111 : m1 111 = mem 111 := hFr.1 111 (by omega) (by omega)
              refine pw_iload_n 1 rfl dX10_measure_45 rfl ?_
              refine pw_bipush dX10_measure_46 (by decide) ?_
              refine pw_aload_n 0 rfl dX10_measure_48 rfl ?_
              refine pw_gI 34 34 rfl dX10_measure_49 cOk10 (by assumption) (by decide) kw_1099 (by decide) (fun r49 => ?_)
              try simp (disch := omega) only [wr_s, wr_a, wr_k] at r49 ⊢
              rw [q34] at r49 ⊢
              refine pw_imul dX10_measure_52 ?_
              refine pw_icmp_ge 101 (by decide) dX10_measure_53 (by omega) (by omega) (fun c53 => ?_) (fun c53 => ?_)
              · skip
                have eI : (i : Int) = 38 * (mem 88 34) := by omega
                rw [eI] at hE
                refine pw_iconst dX10_measure_101 ?_
                refine pw_istore_n 1 rfl dX10_measure_102 (by decide) ?_
                refine pw_iconst dX10_measure_103 ?_
                refine pw_istore_n 2 rfl dX10_measure_104 (by decide) ?_
                have lp105 : ∀ (kz3 : Nat) (i : Nat) (e : Int) (m1 : pM), (mem 88 34) - (i : Int) < (kz3 : Int) → ((i : Int) ≤ (mem 88 34)) → (FrM mem m1) → (EL (mem 114) (mem 88 34) (m1 116) (m1 117) (38 * (mem 88 34))) → (BI (mem 111) (mem 88 34) (m1 118) (i : Int) e) → (∀ k, 0 ≤ k → k < (mem 88 34) → m1 115 k = if k < (i : Int) ∧ mem 111 k ≠ 0 then 0 else -1) → PW mi_X10_measure d n n (fun r ok' mem' => r = none ∧ ok = ok' ∧ MS mem mem') 105 [(0, vr 88), (1, vi e), (2, vi (i : Int))] [] n ok m1 := by
                  intro kz3
                  induction kz3 with
                  | zero =>
                    intro i e m1 hk3 h1 hFr hE hB hfar
                    exact absurd hk3 (by omega)
                  | succ kz3 ih3 =>
                    intro i e m1 hk3 h1 hFr hE hB hfar
                    have q34 : m1 88 34 = mem 88 34 := hFr.2.1 34 (by omega)
                    have q114 : m1 114 = mem 114 := hFr.1 114 (by omega) (by omega)
                    have q111 : m1 111 = mem 111 := hFr.1 111 (by omega) (by omega)
                    have hB1 := hB.1
                    refine pw_iload_n 2 rfl dX10_measure_105 rfl ?_
                    refine pw_aload_n 0 rfl dX10_measure_106 rfl ?_
                    refine pw_gI 34 34 rfl dX10_measure_107 cOk10 (by assumption) (by decide) kw_1099 (by decide) (fun r107 => ?_)
                    try simp (disch := omega) only [wr_s, wr_a, wr_k] at r107 ⊢
                    rw [q34] at r107 ⊢
                    refine pw_icmp_ge 145 (by decide) dX10_measure_110 (by omega) (by omega) (fun c110 => ?_) (fun c110 => ?_)
                    · skip
                      have eI : (i : Int) = (mem 88 34) := by omega
                      rw [eI] at hB hfar
                      have hBF := BI_BF (rdR mem) hB (F := m1 115) (fun o o1 o2 => by
                        rw [hfar o o1 o2]
                        by_cases w : mem 111 o ≠ 0
                        · rw [if_pos w, if_pos ⟨o2, w⟩]
                        · rw [if_neg w, if_neg (fun z => w z.2)])
                      refine pw_iconst dX10_measure_145 ?_
                      refine pw_istore_n 2 rfl dX10_measure_146 (by decide) ?_
                      have lp147 : ∀ (kz4 : Nat) (i : Nat) (e : Int) (m1 : pM), (mem 88 34) - (i : Int) < (kz4 : Int) → (FrM mem m1) → (EL (mem 114) (mem 88 34) (m1 116) (m1 117) (38 * (mem 88 34))) → (BF (rdR mem) (mem 111) (mem 88 34) (m1 115) (m1 118) (i : Int) e) → PW mi_X10_measure d n n (fun r ok' mem' => r = none ∧ ok = ok' ∧ MS mem mem') 147 [(0, vr 88), (1, vi e), (2, vi (i : Int))] [] n ok m1 := by
                        intro kz4
                        induction kz4 with
                        | zero =>
                          intro i e m1 hk4 hFr hE hB
                          exact absurd hk4 (by have := hB.1; omega)
                        | succ kz4 ih4 =>
                          intro i e m1 hk4 hFr hE hB
                          have q34 : m1 88 34 = mem 88 34 := hFr.2.1 34 (by omega)
                          have q114 : m1 114 = mem 114 := hFr.1 114 (by omega) (by omega)
                          have q111 : m1 111 = mem 111 := hFr.1 111 (by omega) (by omega)
                          have hB1 := hB.1
                          refine pw_iload_n 2 rfl dX10_measure_147 rfl ?_
                          refine pw_iload_n 1 rfl dX10_measure_148 rfl ?_
                          refine pw_icmp_ge 233 (by decide) dX10_measure_149 (by omega) (by omega) (fun c149 => ?_) (fun c149 => ?_)
                          · skip
                            have eI : (i : Int) = e := by omega
                            rw [eI] at hB
                            have hEnd := BF_end hB
                            refine pw_vret dX10_measure_233 rfl rfl ?_
                            exact ⟨rfl, rfl, hFr, hEnd⟩
                          · skip
                            have c149 : (i : Int) < e := by omega
                            have hQ := hB.2.1 i (by omega) (by omega)
                            have hPE := hE.1 _ hQ.1 hQ.2.1
                            have hPr : -1 ≤ m1 116 (m1 118 i) ∧ m1 116 (m1 118 i) < 38 * (mem 88 34) := by rcases hPE with z | z <;> omega
                            have hD0 : ∀ e2, m1 116 (m1 118 i) < e2 → e2 < 38 * (mem 88 34) → mem 114 e2 = m1 118 i → m1 115 (e2 / 38) ≠ -1 := fun e2 z1 z2 z3 => by
                              rcases hPE with z | z
                              · exact absurd z3 (z.2 e2 (by omega) z2)
                              · exact absurd z3 (z.2.2.2 e2 z1 z2)
                            have hTo0 : m1 116 (m1 118 i) ≠ -1 → mem 114 (m1 116 (m1 118 i)) = m1 118 i := fun w => by rcases hPE with z | z; exact absurd z.1 w; exact z.2.2.1
                            refine pw_aload_n 0 rfl dX10_measure_152 rfl ?_
                            refine pw_gR 46 116 dX10_measure_153 cOk10 (by assumption) (by decide) kw_1111 (by decide) rfl ?_
                            refine pw_aload_n 0 rfl dX10_measure_156 rfl ?_
                            refine pw_gR 48 118 dX10_measure_157 cOk10 (by assumption) (by decide) kw_1113 (by decide) rfl ?_
                            refine pw_iload_n 2 rfl dX10_measure_160 rfl ?_
                            refine pw_iaload dX10_measure_161 (by assumption) (by omega) (by omega) (fun r161 => ?_)
                            try simp (disch := omega) only [wr_s, wr_a, wr_k] at r161 ⊢
                            refine pw_iaload dX10_measure_162 (by assumption) (by omega) (by omega) (fun r162 => ?_)
                            try simp (disch := omega) only [wr_s, wr_a, wr_k] at r162 ⊢
                            refine pw_istore_n 3 rfl dX10_measure_163 (by decide) ?_
                            have lp164 : ∀ (kz5 : Nat) (g e : Int) (m1 : pM), g + 1 < (kz5 : Int) → (-1 ≤ g ∧ g < 38 * (mem 88 34)) → (FrM mem m1) → (EL (mem 114) (mem 88 34) (m1 116) (m1 117) (38 * (mem 88 34))) → (BF (rdR mem) (mem 111) (mem 88 34) (m1 115) (m1 118) (i : Int) e) → ((i : Int) < e) → (g ≠ -1 → mem 114 g = m1 118 i) → (∀ e2, g < e2 → e2 < 38 * (mem 88 34) → mem 114 e2 = m1 118 i → m1 115 (e2 / 38) ≠ -1) → PW mi_X10_measure d n n (fun r ok' mem' => r = none ∧ ok = ok' ∧ MS mem mem') 164 [(0, vr 88), (1, vi e), (2, vi (i : Int)), (3, vi g)] [] n ok m1 := by
                              intro kz5
                              induction kz5 with
                              | zero =>
                                intro g e m1 hk5 hg hFr hE hB c149 hTo hD
                                exact absurd hk5 (by omega)
                              | succ kz5 ih5 =>
                                intro g e m1 hk5 hg hFr hE hB c149 hTo hD
                                have q34 : m1 88 34 = mem 88 34 := hFr.2.1 34 (by omega)
                                have q114 : m1 114 = mem 114 := hFr.1 114 (by omega) (by omega)
                                have q111 : m1 111 = mem 111 := hFr.1 111 (by omega) (by omega)
                                have hB1 := hB.1
                                have hQ := hB.2.1 i (by omega) (by omega)
                                refine pw_iload_n 3 rfl dX10_measure_164 rfl ?_
                                refine pw_iconst dX10_measure_165 ?_
                                refine pw_icmp_eq 227 (by decide) dX10_measure_166 (by omega) (by omega) (fun c166 => ?_) (fun c166 => ?_)
                                · skip
                                  have eg : g = -1 := c166
                                  subst eg
                                  refine pw_iinc dX10_measure_227 rfl (by decide) ?_
                                  refine pw_goto 147 (by decide) dX10_measure_230 ?_
                                  exact pw_locs _ rfl (ih4 (i + 1) e _ (by omega) hFr hE (BF_next hB c149 (fun o o1 o2 o3 => by obtain ⟨j, j1, j2, j3⟩ := o3; have := hD (38 * o + j) (by omega) (by omega) j3; rw [show (38 * o + j) / 38 = o by omega] at this; exact this)))
                                · skip
                                  have hTg := hTo c166
                                  have hPn := hE.2 g (by omega) (by omega) (by omega)
                                  rw [hTg] at hPn
                                  have hPr : -1 ≤ m1 117 g ∧ m1 117 g < g := by rcases hPn with z | z <;> omega
                                  have hT2 : m1 117 g ≠ -1 → mem 114 (m1 117 g) = m1 118 i := fun w => by rcases hPn with z | z; exact absurd z.1 w; exact z.2.2.1
                                  have hB2 : ∀ e2, m1 117 g < e2 → e2 < g → mem 114 e2 ≠ m1 118 i := fun e2 z1 z2 => by
                                    rcases hPn with z | z
                                    · exact z.2 e2 (by omega) z2
                                    · exact z.2.2.2 e2 z1 z2
                                  have hf : 0 ≤ g / 38 ∧ g / 38 < (mem 88 34) := by omega
                                  refine pw_iload_n 3 rfl dX10_measure_169 rfl ?_
                                  refine pw_bipush dX10_measure_170 (by decide) ?_
                                  refine pw_idiv dX10_measure_172 (by omega) (by omega) ?_
                                  refine pw_istore dX10_measure_173 (by decide) ?_
                                  refine pw_aload_n 0 rfl dX10_measure_175 rfl ?_
                                  refine pw_gR 45 115 dX10_measure_176 cOk10 (by assumption) (by decide) kw_1110 (by decide) rfl ?_
                                  refine pw_iload dX10_measure_179 rfl ?_
                                  refine pw_iaload dX10_measure_181 (by assumption) (by omega) (by omega) (fun r181 => ?_)
                                  try simp (disch := omega) only [wr_s, wr_a, wr_k] at r181 ⊢
                                  refine pw_iconst dX10_measure_182 ?_
                                  refine pw_icmp_ne 217 (by decide) dX10_measure_183 (by omega) (by omega) (fun c183 => ?_) (fun c183 => ?_)
                                  · skip
                                    skip
                                    refine pw_aload_n 0 rfl dX10_measure_217 rfl ?_
                                    refine pw_gR 47 117 dX10_measure_218 cOk10 (by assumption) (by decide) kw_1112 (by decide) rfl ?_
                                    refine pw_iload_n 3 rfl dX10_measure_221 rfl ?_
                                    refine pw_iaload dX10_measure_222 (by assumption) (by omega) (by omega) (fun r222 => ?_)
                                    try simp (disch := omega) only [wr_s, wr_a, wr_k] at r222 ⊢
                                    refine pw_istore_n 3 rfl dX10_measure_223 (by decide) ?_
                                    refine pw_goto 164 (by decide) dX10_measure_224 ?_
                                    have hD2 : ∀ e2, m1 117 g < e2 → e2 < 38 * mem 88 34 → mem 114 e2 = m1 118 i → m1 115 (e2 / 38) ≠ -1 := fun e2 z1 z2 z3 => by
                                      by_cases w : e2 = g
                                      · rw [w]; exact c183
                                      · by_cases w2 : g < e2
                                        · exact hD e2 w2 z2 z3
                                        · exact absurd z3 (hB2 e2 z1 (by omega))
                                    exact pw_locs _ rfl (ih5 (m1 117 g) e m1 (by omega) (by omega) hFr hE hB c149 hT2 hD2)
                                  · skip
                                    have c183 : m1 115 (g / 38) = -1 := by omega
                                    have hPu := BF_push hB c149 hf.1 hf.2 c183 ⟨g % 38, by omega, by omega, by rw [show 38 * (g / 38) + g % 38 = g by omega]; exact hTg⟩
                                    have hmax : m1 115 (m1 118 i) ≤ 1024 := hcap _ _ hB i (by omega) (by omega)
                                    refine pw_aload_n 0 rfl dX10_measure_186 rfl ?_
                                    refine pw_gR 45 115 dX10_measure_187 cOk10 (by assumption) (by decide) kw_1110 (by decide) rfl ?_
                                    refine pw_iload dX10_measure_190 rfl ?_
                                    refine pw_aload_n 0 rfl dX10_measure_192 rfl ?_
                                    refine pw_gR 45 115 dX10_measure_193 cOk10 (by assumption) (by decide) kw_1110 (by decide) rfl ?_
                                    refine pw_aload_n 0 rfl dX10_measure_196 rfl ?_
                                    refine pw_gR 48 118 dX10_measure_197 cOk10 (by assumption) (by decide) kw_1113 (by decide) rfl ?_
                                    refine pw_iload_n 2 rfl dX10_measure_200 rfl ?_
                                    refine pw_iaload dX10_measure_201 (by assumption) (by omega) (by omega) (fun r201 => ?_)
                                    try simp (disch := omega) only [wr_s, wr_a, wr_k] at r201 ⊢
                                    refine pw_iaload dX10_measure_202 (by assumption) (by omega) (by omega) (fun r202 => ?_)
                                    try simp (disch := omega) only [wr_s, wr_a, wr_k] at r202 ⊢
                                    refine pw_iconst dX10_measure_203 ?_
                                    refine pw_iadd dX10_measure_204 ?_
                                    refine pw_iastore dX10_measure_205 (by assumption) (by omega) (by omega) (by omega) ?_
                                    refine pw_aload_n 0 rfl dX10_measure_206 rfl ?_
                                    refine pw_gR 48 118 dX10_measure_207 cOk10 (by assumption) (by decide) kw_1113 (by decide) rfl ?_
                                    refine pw_iload_n 1 rfl dX10_measure_210 rfl ?_
                                    refine pw_iload dX10_measure_211 rfl ?_
                                    refine pw_iastore dX10_measure_213 (by assumption) (by omega) (by omega) (by omega) ?_
                                    obtain ⟨m4, em4⟩ : ∃ x, x = wr (wr m1 115 (g / 38) (m1 115 (m1 118 i) + 1)) 118 e (g / 38) := ⟨_, rfl⟩
                                    rw [← em4]
                                    have f115 : m4 115 = vUp (m1 115) (g / 38) (m1 115 (m1 118 i) + 1) := by rw [em4, wr_a _ _ _ (by omega), wr_f]
                                    have f118 : m4 118 = vUp (m1 118) e (g / 38) := by rw [em4, wr_f, wr_a _ _ _ (by omega)]
                                    have f117 : m4 117 = m1 117 := by rw [em4, wr_a _ _ _ (by omega), wr_a _ _ _ (by omega)]
                                    have eQi : m4 118 i = m1 118 i := by rw [f118]; exact if_neg (by omega)
                                    refine pw_iinc dX10_measure_214 rfl (by decide) ?_
                                    refine pw_aload_n 0 rfl dX10_measure_217 rfl ?_
                                    refine pw_gR 47 117 dX10_measure_218 cOk10 (by assumption) (by decide) kw_1112 (by decide) rfl ?_
                                    refine pw_iload_n 3 rfl dX10_measure_221 rfl ?_
                                    refine pw_iaload dX10_measure_222 (by assumption) (by omega) (by omega) (fun r222 => ?_)
                                    try simp (disch := omega) only [wr_s, wr_a, wr_k] at r222 ⊢
                                    rw [f117] at r222 ⊢
                                    refine pw_istore_n 3 rfl dX10_measure_223 (by decide) ?_
                                    refine pw_goto 164 (by decide) dX10_measure_224 ?_
                                    have hD2 : ∀ e2, m1 117 g < e2 → e2 < 38 * mem 88 34 → mem 114 e2 = m4 118 i → m4 115 (e2 / 38) ≠ -1 := fun e2 z1 z2 z3 => by
                                      rw [eQi] at z3
                                      rw [f115]
                                      unfold vUp
                                      by_cases w : e2 / 38 = g / 38
                                      · rw [if_pos w]; omega
                                      · rw [if_neg w]
                                        have w3 : e2 ≠ g := fun y => w (by rw [y])
                                        by_cases w2 : g < e2
                                        · exact hD e2 w2 z2 z3
                                        · exact absurd z3 (hB2 e2 z1 (by omega))
                                    exact pw_locs _ rfl (ih5 (m1 117 g) (e + 1) m4 (by omega) (by omega) (by rw [em4]; exact (hFr.w _ _ (by omega)).w _ _ (by omega)) (by rw [em4, wr_a _ _ _ (show 116 ≠ 118 by omega), wr_a _ _ _ (show 116 ≠ 115 by omega), wr_a _ _ _ (show 117 ≠ 118 by omega), wr_a _ _ _ (show 117 ≠ 115 by omega)]; exact hE) (by rw [f115, f118]; exact hPu.2) (by omega) (by rw [eQi]; exact hT2) hD2)
                            exact pw_locs _ rfl (lp164 38914 (m1 116 (m1 118 i)) e m1 (by omega) hPr hFr hE hB c149 hTo0 hD0)
                      exact pw_locs _ rfl (lp147 1025 0 e m1 (by omega) hFr hE hBF)
                    · skip
                      refine pw_aload_n 0 rfl dX10_measure_113 rfl ?_
                      refine pw_gR 40 111 dX10_measure_114 cOk10 (by assumption) (by decide) kw_1105 (by decide) rfl ?_
                      refine pw_iload_n 2 rfl dX10_measure_117 rfl ?_
                      refine pw_baload dX10_measure_118 (by assumption) (by omega) (by omega) (fun r118 => ?_)
                      try simp (disch := omega) only [wr_s, wr_a, wr_k] at r118 ⊢
                      rw [q111] at r118 ⊢
                      refine pw_if_eq 139 (by decide) dX10_measure_119 (by omega) (fun c119 => ?_) (fun c119 => ?_)
                      · skip
                        refine pw_iinc dX10_measure_139 rfl (by decide) ?_
                        refine pw_goto 105 (by decide) dX10_measure_142 ?_
                        have hf2 : ∀ k, 0 ≤ k → k < mem 88 34 → m1 115 k = if k < ((i + 1 : Nat) : Int) ∧ mem 111 k ≠ 0 then 0 else -1 := fun k k1 k2 => by
                          rw [hfar k k1 k2]
                          by_cases q : k = i
                          · subst q; rw [if_neg (by omega), if_neg (fun z => z.2 c119)]
                          · by_cases w : k < (i : Int) ∧ mem 111 k ≠ 0
                            · rw [if_pos w, if_pos ⟨by omega, w.2⟩]
                            · rw [if_neg w, if_neg (fun z => w ⟨by omega, z.2⟩)]
                        exact pw_locs _ rfl (ih3 (i + 1) e m1 (by omega) (by omega) hFr hE (BI_no hB (by omega) c119) hf2)
                      · skip
                        refine pw_aload_n 0 rfl dX10_measure_122 rfl ?_
                        refine pw_gR 45 115 dX10_measure_123 cOk10 (by assumption) (by decide) kw_1110 (by decide) rfl ?_
                        refine pw_iload_n 2 rfl dX10_measure_126 rfl ?_
                        refine pw_iconst dX10_measure_127 ?_
                        refine pw_iastore dX10_measure_128 (by assumption) (by omega) (by omega) (by omega) ?_
                        refine pw_aload_n 0 rfl dX10_measure_129 rfl ?_
                        refine pw_gR 48 118 dX10_measure_130 cOk10 (by assumption) (by decide) kw_1113 (by decide) rfl ?_
                        refine pw_iload_n 1 rfl dX10_measure_133 rfl ?_
                        refine pw_iload_n 2 rfl dX10_measure_134 rfl ?_
                        refine pw_iastore dX10_measure_135 (by assumption) (by omega) (by omega) (by omega) ?_
                        refine pw_iinc dX10_measure_136 rfl (by decide) ?_
                        refine pw_iinc dX10_measure_139 rfl (by decide) ?_
                        refine pw_goto 105 (by decide) dX10_measure_142 ?_
                        have hf2 : ∀ k, 0 ≤ k → k < mem 88 34 → (wr (wr m1 115 (i : Int) 0) 118 e (i : Int)) 115 k = if k < ((i + 1 : Nat) : Int) ∧ mem 111 k ≠ 0 then 0 else -1 := fun k k1 k2 => by
                          rw [wr_a _ _ _ (by omega)]
                          by_cases q : k = i
                          · subst q; rw [wr_s, if_pos ⟨by omega, c119⟩]
                          · rw [wr_k _ _ _ _ q, hfar k k1 k2]
                            by_cases w : k < (i : Int) ∧ mem 111 k ≠ 0
                            · rw [if_pos w, if_pos ⟨by omega, w.2⟩]
                            · rw [if_neg w, if_neg (fun z => w ⟨by omega, z.2⟩)]
                        exact pw_locs _ rfl (ih3 (i + 1) (e + 1) _ (by omega) (by omega) ((hFr.w _ _ (by omega)).w _ _ (by omega)) (by rw [wr_a _ _ _ (show 116 ≠ 118 by omega), wr_a _ _ _ (show 116 ≠ 115 by omega), wr_a _ _ _ (show 117 ≠ 118 by omega), wr_a _ _ _ (show 117 ≠ 115 by omega)]; exact hE) (by rw [wr_f, wr_a _ _ _ (show 118 ≠ 115 by omega)]; exact BI_yes hB (by omega) c119) hf2)
                exact pw_locs _ rfl (lp105 1025 0 0 m1 (by omega) (by omega) hFr hE (BI_0 (by omega)) (fun k k1 k2 => by rw [if_neg (by omega)]; exact hfar k k1 k2))
              · skip
                have hL := hS.2.2.2.2 i (by omega) (by omega)
                refine pw_aload_n 0 rfl dX10_measure_56 rfl ?_
                refine pw_gR 43 114 dX10_measure_57 cOk10 (by assumption) (by decide) kw_1108 (by decide) rfl ?_
                refine pw_iload_n 1 rfl dX10_measure_60 rfl ?_
                refine pw_iaload dX10_measure_61 (by assumption) (by omega) (by omega) (fun r61 => ?_)
                try simp (disch := omega) only [wr_s, wr_a, wr_k] at r61 ⊢
                rw [q114] at r61 ⊢
                refine pw_iconst dX10_measure_62 ?_
                refine pw_icmp_eq 95 (by decide) dX10_measure_63 (by omega) (by omega) (fun c63 => ?_) (fun c63 => ?_)
                · skip
                  refine pw_iinc dX10_measure_95 rfl (by decide) ?_
                  refine pw_goto 45 (by decide) dX10_measure_98 ?_
                  exact pw_locs _ rfl (ih2 (i + 1) m1 (by omega) (by omega) hFr hfar (EL_no hE c63))
                · skip
                  refine pw_aload_n 0 rfl dX10_measure_66 rfl ?_
                  refine pw_gR 47 117 dX10_measure_67 cOk10 (by assumption) (by decide) kw_1112 (by decide) rfl ?_
                  refine pw_iload_n 1 rfl dX10_measure_70 rfl ?_
                  refine pw_aload_n 0 rfl dX10_measure_71 rfl ?_
                  refine pw_gR 46 116 dX10_measure_72 cOk10 (by assumption) (by decide) kw_1111 (by decide) rfl ?_
                  refine pw_aload_n 0 rfl dX10_measure_75 rfl ?_
                  refine pw_gR 43 114 dX10_measure_76 cOk10 (by assumption) (by decide) kw_1108 (by decide) rfl ?_
                  refine pw_iload_n 1 rfl dX10_measure_79 rfl ?_
                  refine pw_iaload dX10_measure_80 (by assumption) (by omega) (by omega) (fun r80 => ?_)
                  try simp (disch := omega) only [wr_s, wr_a, wr_k] at r80 ⊢
                  rw [q114] at r80 ⊢
                  refine pw_iaload dX10_measure_81 (by assumption) (by omega) (by omega) (fun r81 => ?_)
                  try simp (disch := omega) only [wr_s, wr_a, wr_k] at r81 ⊢
                  refine pw_iastore dX10_measure_82 (by assumption) (by omega) (by omega) (by omega) ?_
                  refine pw_aload_n 0 rfl dX10_measure_83 rfl ?_
                  refine pw_gR 46 116 dX10_measure_84 cOk10 (by assumption) (by decide) kw_1111 (by decide) rfl ?_
                  refine pw_aload_n 0 rfl dX10_measure_87 rfl ?_
                  refine pw_gR 43 114 dX10_measure_88 cOk10 (by assumption) (by decide) kw_1108 (by decide) rfl ?_
                  refine pw_iload_n 1 rfl dX10_measure_91 rfl ?_
                  refine pw_iaload dX10_measure_92 (by assumption) (by omega) (by omega) (fun r92 => ?_)
                  try simp (disch := omega) only [wr_s, wr_a, wr_k] at r92 ⊢
                  rw [q114] at r92 ⊢
                  refine pw_iload_n 1 rfl dX10_measure_93 rfl ?_
                  refine pw_iastore dX10_measure_94 (by assumption) (by omega) (by omega) (by omega) ?_
                  refine pw_iinc dX10_measure_95 rfl (by decide) ?_
                  refine pw_goto 45 (by decide) dX10_measure_98 ?_
                  exact pw_locs _ rfl (ih2 (i + 1) _ (by omega) (by omega) ((hFr.w _ _ (by omega)).w _ _ (by omega)) (fun k k1 k2 => by rw [wr_a _ _ _ (by omega), wr_a _ _ _ (by omega)]; exact hfar k k1 k2) (by rw [wr_f, wr_a _ _ _ (show 116 ≠ 117 by omega), wr_a _ _ _ (show 117 ≠ 116 by omega), wr_f]; exact EL_yes hE (by omega) (by omega)))
          exact pw_locs _ rfl (lp45 38913 0 m1 (by omega) (by omega) hFr hfar hI0)
        · skip
          refine pw_aload_n 0 rfl dX10_measure_23 rfl ?_
          refine pw_gR 46 116 dX10_measure_24 cOk10 (by assumption) (by decide) kw_1111 (by decide) rfl ?_
          refine pw_iload_n 1 rfl dX10_measure_27 rfl ?_
          refine pw_iconst dX10_measure_28 ?_
          refine pw_iastore dX10_measure_29 (by assumption) (by omega) (by omega) (by omega) ?_
          refine pw_aload_n 0 rfl dX10_measure_30 rfl ?_
          refine pw_gR 45 115 dX10_measure_31 cOk10 (by assumption) (by decide) kw_1110 (by decide) rfl ?_
          refine pw_iload_n 1 rfl dX10_measure_34 rfl ?_
          refine pw_iconst dX10_measure_35 ?_
          refine pw_iastore dX10_measure_36 (by assumption) (by omega) (by omega) (by omega) ?_
          refine pw_iinc dX10_measure_37 rfl (by decide) ?_
          refine pw_goto 15 (by decide) dX10_measure_40 ?_
          have hI2 : ∀ k, 0 ≤ k → k < ((i + 1 : Nat) : Int) → (wr (wr m1 116 (i : Int) (-1)) 115 (i : Int) (-1)) 116 k = -1 ∧ (wr (wr m1 116 (i : Int) (-1)) 115 (i : Int) (-1)) 115 k = -1 := fun k k1 k2 => by
            by_cases q : k = i
            · subst q; exact ⟨by rw [wr_a _ _ _ (by omega), wr_s], wr_s _ _ _ _⟩
            · rw [wr_a _ _ _ (by omega), wr_k _ _ _ _ q, wr_k _ _ _ _ q, wr_a _ _ _ (by omega)]; exact hI k k1 (by omega)
          exact pw_locs _ rfl (ih (i + 1) _ (by omega) (by omega) ((hFr.w _ _ (by omega)).w _ _ (by omega)) hI2)
    exact pw_locs _ rfl (lp15 1025 0 m0 (by omega) (by omega) hFr0 (fun k k1 k2 => absurd k2 (by omega)))
  · skip
    skip
    refine pw_vret dX10_measure_7 rfl rfl ?_
    exact ⟨rfl, rfl, ⟨fun _ _ _ => rfl, fun _ _ => rfl, by omega⟩, hF (by omega)⟩
