/-! ===== of one state at most twelve others are a move away ===== -/
def th : Nat → Int
  | 0 => 1
  | k + 1 => th k * 3
theorem th_pos (k : Nat) : 1 ≤ th k := by
  induction k with
  | zero => exact Int.le_refl _
  | succ k ih => show 1 ≤ th k * 3; omega
theorem th_add (k j : Nat) : th (k + j) = th k * th j := by
  induction j with
  | zero => show th k = th k * 1; rw [Int.mul_one]
  | succ j ih => show th (k + j) * 3 = th k * (th j * 3); rw [ih, Int.mul_assoc]
def Bd (a P : Int) : Prop := ∃ k : Nat, a ≤ k ∧ th k ≤ P * P
theorem Bd_s {a P : Int} (h : Bd a P) (hP : 1 ≤ P) {a2 w : Int} (d : Nat) (ha : a2 ≤ a + d) (hw : 1 ≤ w) (hd : th d ≤ w * w) : Bd a2 (P * w) := by
  obtain ⟨k, h1, h2⟩ := h
  refine ⟨k + d, by omega, ?_⟩
  rw [th_add]
  have e : P * w * (P * w) = (P * P) * (w * w) := by rw [Int.mul_assoc, Int.mul_assoc, ← Int.mul_assoc w P w, Int.mul_comm w P, Int.mul_assoc P w w]
  rw [e]
  have p1 := th_pos k
  have p2 := th_pos d
  exact Int.mul_le_mul h2 hd (by omega) (Int.mul_nonneg (by omega) (by omega))
theorem Bd_12 {a P : Int} (h : Bd a P) (h1 : 1 ≤ P) (hP : P ≤ 1024) : a ≤ 12 := by
  obtain ⟨k, k1, k2⟩ := h
  have e : P * P ≤ 1024 * 1024 := Int.mul_le_mul hP hP (by omega) (by omega)
  by_cases q : k ≤ 12
  · omega
  · obtain ⟨j, ej⟩ : ∃ j, k = 13 + j := ⟨k - 13, by omega⟩
    rw [ej, th_add] at k2
    have t13 : th 13 = 1594323 := by decide
    rw [t13] at k2
    have := th_pos j
    omega
def pG (w : Int → Int) : Nat → Int
  | 0 => 1
  | k + 1 => pG w k * w k
theorem pG_pos {w : Int → Int} (h : ∀ s : Nat, 1 ≤ w s) (k : Nat) : 1 ≤ pG w k := by
  induction k with
  | zero => exact Int.le_refl _
  | succ k ih =>
    have := Int.mul_le_mul ih (h k) (by omega) (by omega)
    show 1 ≤ pG w k * w k; omega
theorem pG_ge {w : Int → Int} (h : ∀ s : Nat, 1 ≤ w s) (s k : Nat) (hs : s < k) : w s ≤ pG w k := by
  induction k with
  | zero => omega
  | succ k ih =>
    show w s ≤ pG w k * w k
    by_cases e : s = k
    · subst e
      have := Int.mul_le_mul (pG_pos h s) (Int.le_refl (w s)) (by have := h s; omega) (by have := pG_pos h s; omega)
      omega
    · have i := ih (by omega)
      have a := h s
      have := Int.mul_le_mul i (h k) (by omega) (by have := pG_pos h k; omega)
      omega
theorem pG_ge2 {w : Int → Int} (h : ∀ s : Nat, 1 ≤ w s) (s t k : Nat) (hs : s < t) (ht : t < k) : w s * w t ≤ pG w k := by
  induction k with
  | zero => omega
  | succ k ih =>
    show w s * w t ≤ pG w k * w k
    by_cases e : t = k
    · subst e
      exact Int.mul_le_mul_of_nonneg_right (pG_ge h s t hs) (by have := h t; omega)
    · have i := ih (by omega)
      have a := h s
      have b := h t
      have p : 1 ≤ w s * w t := by have := Int.mul_le_mul a b (by omega) (by omega); omega
      have := Int.mul_le_mul i (h k) (by omega) (by have := pG_pos h k; omega)
      omega
theorem pG_mul (w u : Int → Int) (k : Nat) : pG w k * pG u k = pG (fun s => w s * u s) k := by
  induction k with
  | zero => rfl
  | succ k ih =>
    show pG w k * w k * (pG u k * u k) = pG (fun s => w s * u s) k * (w k * u k)
    rw [← ih, Int.mul_assoc, Int.mul_assoc, ← Int.mul_assoc (w k) (pG u k) (u k), Int.mul_comm (w k) (pG u k), Int.mul_assoc (pG u k)]
theorem pG_le {w u : Int → Int} (k : Nat) (h : ∀ s : Nat, s < k → 1 ≤ w s ∧ w s ≤ u s) : 1 ≤ pG w k ∧ pG w k ≤ pG u k := by
  induction k with
  | zero => exact ⟨Int.le_refl _, Int.le_refl _⟩
  | succ k ih =>
    have i := ih (fun s hs => h s (by omega))
    have a := h k (by omega)
    show 1 ≤ pG w k * w k ∧ pG w k * w k ≤ pG u k * u k
    refine ⟨?_, Int.mul_le_mul i.2 a.2 (by omega) (by omega)⟩
    have := Int.mul_le_mul i.1 a.1 (by omega) (by omega)
    omega
theorem pW_pG (A : pM) (c : Int) (k : Nat) : pW A c k = pG (eSp A c) k := by
  induction k with
  | zero => rfl
  | succ k ih => show pW A c k * eSp A c k = pG (eSp A c) k * eSp A c k; rw [ih]
/-! pairs of moves -/
theorem ad_2 (A : pM) (c x : Int) (j : Nat) : adG A c x (j + 2) ≤ adG A c x j + (2 : Nat) := by
  have a := adG_s A c x j
  have b := adG_s A c x (j + 1)
  have e : j + 2 = j + 1 + 1 := rfl
  rw [e]; omega
theorem ad_1 {A : pM} {c x : Int} {j : Nat} (h : ¬ isNew A c x j ∨ ¬ isNew A c x ((j + 1 : Nat) : Int)) : adG A c x (j + 2) ≤ adG A c x j + (1 : Nat) := by
  have a := adG_s A c x j
  have b := adG_s A c x (j + 1)
  have e : j + 2 = j + 1 + 1 := rfl
  rw [e]
  rcases h with h | h
  · rcases a with a | a
    · exact absurd a.1 h
    · omega
  · rcases b with b | b
    · exact absurd b.1 h
    · omega
theorem ad_0 {A : pM} {c x : Int} {j : Nat} (h : ¬ isNew A c x j) (h2 : ¬ isNew A c x ((j + 1 : Nat) : Int)) : adG A c x (j + 2) ≤ adG A c x j + (0 : Nat) := by
  have a := adG_s A c x j
  have b := adG_s A c x (j + 1)
  have e : j + 2 = j + 1 + 1 := rfl
  rw [e]
  rcases a with a | a
  · exact absurd a.1 h
  · rcases b with b | b
    · exact absurd b.1 h2
    · omega
theorem tGo_fix {A : pM} {c t : Int} {v : Int → Int} (k : Nat) (h : ∀ s : Int, 0 ≤ s → s < k → tBy A c t s ≠ 0 → ¬ (0 ≤ v s + tBy A c t s ∧ v s + tBy A c t s ≤ aSpan A c s - 1)) : (tGo A c t k v).1 = v := by
  induction k with
  | zero => rfl
  | succ k ih =>
    have i := ih (fun s s1 s2 => h s s1 (by omega))
    rw [tGo_succ, i]
    show (tSt A c t k v).1 = v
    by_cases q : tBy A c t k = 0
    · unfold tSt; rw [if_pos q]
    · rw [tSt_f q]
      have f : faGo A c k (tBy A c t k) 7 v = (v, []) := by rw [show (7 : Nat) = 6 + 1 from rfl, faGo_succ, if_neg (h k (by omega) (by omega) q)]
      split
      · rfl
      · show (faGo A c k (tBy A c t k) 7 v).1 = v; rw [f]
theorem tBy_op (A : pM) (c s : Int) (q : Int) (hq : q = 0 ∨ q = 2 ∨ q = 4) : tBy A c (q + 1) s = - tBy A c q s := by
  unfold tBy
  by_cases k : aKind A c s ≠ 2 ∧ aKind A c s ≠ 3
  · rw [if_pos k, if_pos k]; rfl
  · rw [if_neg k, if_neg k]
    rcases hq with e | e | e
    · subst e
      have x1 : iXor (0 + 1) 1 = 0 := by decide
      have x0 : iXor 0 1 = 1 := by decide
      rw [x1, x0]; (repeat' split) <;> omega
    · subst e
      have x1 : iXor (2 + 1) 1 = 2 := by decide
      have x0 : iXor 2 1 = 3 := by decide
      rw [x1, x0]; (repeat' split) <;> omega
    · subst e
      have x1 : iXor (4 + 1) 1 = 4 := by decide
      have x0 : iXor 4 1 = 5 := by decide
      rw [x1, x0]; (repeat' split) <;> omega
def wH (A : pM) (c : Int) : Int → Int := fun s => if aKind A c s = 0 ∨ aKind A c s = 1 ∨ aKind A c s = 4 then eSp A c s else 1
def wT (A : pM) (c q : Int) : Int → Int := fun s => if tBy A c q s ≠ 0 then eSp A c s else 1
theorem dg_hand {A : pM} {c : Int} (hI : cIn A c) {v : Int → Int} (hv : pOkv A c v) (s : Nat) (hs : s < 16) : ∃ d : Nat, adG A c (numV A c v 16) (2 * s + 2) ≤ adG A c (numV A c v 16) (2 * s) + d ∧ th d ≤ wH A c s * wH A c s := by
  have hOk := hI.ok
  have val : ∀ mv : Int, 0 ≤ mv → mv / 2 = s → mvN A c (numV A c v 16) mv = -1 ∨ ((aKind A c s = 0 ∨ aKind A c s = 1 ∨ aKind A c s = 4) ∧ ∃ g, 0 ≤ g ∧ g < aSpan A c s ∧ mvN A c (numV A c v 16) mv = numV A c v 16 + (g - v s) * pW A c s) := fun mv h0 h1 => by
    rw [mvN_at hOk.1 hv h0]
    by_cases q : iRes A c v mv = 0
    · exact Or.inl (if_pos q)
    · rw [if_neg q]
      have hi : iRes A c v mv = 1 := by have := iRes_01 A c v mv; omega
      have hg := iRes_go hi (by omega)
      have hk := iRes_kind q (show mv < 32 by omega)
      rw [h1] at hg hk
      have hp := hOk.1.2.2 (s : Int) (by omega) (by omega) hk
      have hvs := hv (s : Int) (by omega) (by omega) hk
      have hgl := gl_f (A := A) (c := c) (v := v) (mv := mv) (by rw [h1]; exact hp.1) (by rw [h1]; exact hvs)
      rw [h1] at hgl
      rcases hgl with z | z
      · exact absurd hg.2.1 z.1
      · have hd : dRes A c mv v = (vUp v s (gl A c v mv), []) := by unfold dRes; rw [if_pos (by omega), h1, z.2.1]
        have hup := numV_up (A := A) (c := c) v (s := s) (gl A c v mv) hk 16
        rw [if_pos hs] at hup
        refine Or.inr ⟨?_, gl A c v mv, z.2.2.1, z.2.2.2, by rw [hd]; exact hup⟩
        have hb := hg.1
        have hc := aComes_ran A c s
        unfold bFind at hb
        by_cases w : aComes A c s ≠ 0
        · rw [if_pos w] at hb; exact absurd hb w
        · rw [if_neg w] at hb
          by_cases w2 : aKind A c s = 0 ∨ aKind A c s = 1 ∨ aKind A c s = 4
          · exact w2
          · rw [if_neg w2] at hb; omega
  have va := val ((2 * s : Nat) : Int) (by omega) (by omega)
  have vb := val ((2 * s + 1 : Nat) : Int) (by omega) (by omega)
  by_cases hk : aKind A c s = 0 ∨ aKind A c s = 1 ∨ aKind A c s = 4
  · have ew : wH A c s = aSpan A c s := by unfold wH eSp; rw [if_pos hk, if_neg (by omega)]
    have hkn : aKind A c s ≠ -1 := by omega
    have hp := hOk.1.2.2 (s : Int) (by omega) (by omega) hkn
    have hvs := hv (s : Int) (by omega) (by omega) hkn
    rw [ew]
    have hself : ∀ mv : Int, (mvN A c (numV A c v 16) mv = -1 ∨ ∃ g, 0 ≤ g ∧ g < aSpan A c s ∧ mvN A c (numV A c v 16) mv = numV A c v 16 + (g - v s) * pW A c s) → isNew A c (numV A c v 16) mv → ∃ g, 0 ≤ g ∧ g < aSpan A c s ∧ g ≠ v s ∧ mvN A c (numV A c v 16) mv = numV A c v 16 + (g - v s) * pW A c s := fun mv h hn => by
      rcases h with h | ⟨g, g1, g2, g3⟩
      · exact absurd h hn.1
      · refine ⟨g, g1, g2, fun e => hn.2.1 ?_, g3⟩
        rw [g3, e, Int.sub_self, Int.zero_mul, Int.add_zero]
    have sa := hself _ (by rcases va with z | z; exact Or.inl z; exact Or.inr z.2)
    have sb := hself _ (by rcases vb with z | z; exact Or.inl z; exact Or.inr z.2)
    by_cases p1 : aSpan A c s = 1
    · refine ⟨0, ad_0 (fun z => ?_) (fun z => ?_), by rw [p1]; decide⟩
      · obtain ⟨g, g1, g2, g3, _⟩ := sa z; omega
      · obtain ⟨g, g1, g2, g3, _⟩ := sb z; omega
    · by_cases p2 : aSpan A c s = 2
      · refine ⟨1, ad_1 ?_, by rw [p2]; decide⟩
        by_cases na : isNew A c (numV A c v 16) ((2 * s : Nat) : Int)
        · refine Or.inr (fun nb => ?_)
          obtain ⟨g, g1, g2, g3, g4⟩ := sa na
          obtain ⟨h, h1, h2, h3, h4⟩ := sb nb
          have eg : g = h := by omega
          exact nb.2.2 ((2 * s : Nat) : Int) (by omega) (by omega) (by rw [g4, h4, eg])
        · exact Or.inl na
      · refine ⟨2, ad_2 _ _ _ _, ?_⟩
        have h3 : 3 ≤ aSpan A c s := by omega
        have := Int.mul_le_mul h3 h3 (by omega) (by omega)
        have t2 : th 2 = 9 := by decide
        omega
  · have ew : wH A c s = 1 := by unfold wH; rw [if_neg hk]
    refine ⟨0, ad_0 (fun z => ?_) (fun z => ?_), by rw [ew]; decide⟩
    · rcases va with y | y
      · exact z.1 y
      · exact hk y.1
    · rcases vb with y | y
      · exact z.1 y
      · exact hk y.1
theorem dg_tilt {A : pM} {c : Int} (hI : cIn A c) {v : Int → Int} (hv : pOkv A c v) (q : Nat) (hq : q = 0 ∨ q = 2 ∨ q = 4) : ∃ d : Nat, adG A c (numV A c v 16) (32 + q + 2) ≤ adG A c (numV A c v 16) (32 + q) + d ∧ th d ≤ pG (wT A c q) 16 * pG (wT A c q) 16 := by
  have hOk := hI.ok
  have hw : ∀ s : Nat, s < 16 → 1 ≤ wT A c q s := fun s hs => by
    have := eSp_ran hOk.1.2.2 (s : Int) (by omega) (by omega)
    unfold wT; split <;> omega
  have hpo : 1 ≤ pG (wT A c q) 16 := (pG_le 16 (fun s hs => ⟨hw s hs, Int.le_refl _⟩)).1
  have self : ∀ t : Int, 0 ≤ t → t ≤ 5 → (¬ ∃ s : Int, 0 ≤ s ∧ s < 16 ∧ tBy A c t s ≠ 0 ∧ 0 ≤ v s + tBy A c t s ∧ v s + tBy A c t s ≤ aSpan A c s - 1) → ¬ isNew A c (numV A c v 16) (32 + t) := fun t t1 t2 hn z => by
    have e : mvN A c (numV A c v 16) (32 + t) = numV A c v 16 := by
      have hi : iRes A c v (32 + t) = 1 := by unfold iRes bRes; rw [if_pos (show 32 ≤ 32 + t by omega)]; rfl
      have hd : (dRes A c (32 + t) v).1 = v := by
        unfold dRes; rw [if_neg (by omega), show 32 + t - 32 = t by omega]
        exact tGo_fix 16 (fun s s1 s2 s3 s4 => hn ⟨s, s1, s2, s3, s4.1, s4.2⟩)
      rw [mvN_at hOk.1 hv (by omega), if_neg (by omega), hd]
    exact z.2.1 e
  have spn : ∀ s : Int, 0 ≤ s → s < 16 → tBy A c q s ≠ 0 → wT A c q s = aSpan A c s ∧ aKind A c s ≠ -1 := fun s s1 s2 s3 => by
    have hk := tBy_kind s3
    refine ⟨?_, by omega⟩
    unfold wT eSp; rw [if_pos s3, if_neg (by omega)]
  have ge : ∀ s : Int, 0 ≤ s → s < 16 → wT A c q s ≤ pG (wT A c q) 16 := fun s s1 s2 => by
    have h := pG_ge (w := fun j => if 0 ≤ j ∧ j < 16 then wT A c q j else 1) (fun j => by show (1 : Int) ≤ (if 0 ≤ (j : Int) ∧ (j : Int) < 16 then wT A c q j else 1); split; exact hw j (by omega); omega) s.toNat 16 (by omega)
    have e : pG (fun j => if 0 ≤ j ∧ j < 16 then wT A c q j else 1) 16 ≤ pG (wT A c q) 16 := (pG_le 16 (fun j hj => by
      show 1 ≤ (if 0 ≤ (j : Int) ∧ (j : Int) < 16 then wT A c q j else 1) ∧ (if 0 ≤ (j : Int) ∧ (j : Int) < 16 then wT A c q j else 1) ≤ wT A c q j
      rw [if_pos (by omega)]; exact ⟨hw j hj, Int.le_refl _⟩)).2
    have h2 : (if 0 ≤ ((s.toNat : Nat) : Int) ∧ ((s.toNat : Nat) : Int) < 16 then wT A c q ((s.toNat : Nat) : Int) else 1) ≤ pG (fun j => if 0 ≤ j ∧ j < 16 then wT A c q j else 1) 16 := h
    rw [if_pos (by omega), Int.toNat_of_nonneg s1] at h2
    omega
  have ge2 : ∀ s t : Int, 0 ≤ s → s < t → t < 16 → wT A c q s * wT A c q t ≤ pG (wT A c q) 16 := fun s t s1 s2 s3 => by
    have h := pG_ge2 (w := fun j => if 0 ≤ j ∧ j < 16 then wT A c q j else 1) (fun j => by show (1 : Int) ≤ (if 0 ≤ (j : Int) ∧ (j : Int) < 16 then wT A c q j else 1); split; exact hw j (by omega); omega) s.toNat t.toNat 16 (by omega) (by omega)
    have e : pG (fun j => if 0 ≤ j ∧ j < 16 then wT A c q j else 1) 16 ≤ pG (wT A c q) 16 := (pG_le 16 (fun j hj => by
      show 1 ≤ (if 0 ≤ (j : Int) ∧ (j : Int) < 16 then wT A c q j else 1) ∧ (if 0 ≤ (j : Int) ∧ (j : Int) < 16 then wT A c q j else 1) ≤ wT A c q j
      rw [if_pos (by omega)]; exact ⟨hw j hj, Int.le_refl _⟩)).2
    have h2 : (if 0 ≤ ((s.toNat : Nat) : Int) ∧ ((s.toNat : Nat) : Int) < 16 then wT A c q ((s.toNat : Nat) : Int) else 1) * (if 0 ≤ ((t.toNat : Nat) : Int) ∧ ((t.toNat : Nat) : Int) < 16 then wT A c q ((t.toNat : Nat) : Int) else 1) ≤ pG (fun j => if 0 ≤ j ∧ j < 16 then wT A c q j else 1) 16 := h
    rw [if_pos (by omega), if_pos (by omega), Int.toNat_of_nonneg s1, Int.toNat_of_nonneg (by omega)] at h2
    omega
  have hop : ∀ s : Int, tBy A c ((q : Int) + 1) s = - tBy A c q s := fun s => tBy_op A c s q (by omega)
  by_cases ca : ∃ s : Int, 0 ≤ s ∧ s < 16 ∧ tBy A c q s ≠ 0 ∧ 0 ≤ v s + tBy A c q s ∧ v s + tBy A c q s ≤ aSpan A c s - 1
  · obtain ⟨s, s1, s2, s3, s4, s5⟩ := ca
    have hs := spn s s1 s2 s3
    have hvs := hv s s1 (by omega) hs.2
    have gs := ge s s1 s2
    have sp2 : 2 ≤ aSpan A c s := by omega
    by_cases cb : ∃ t : Int, 0 ≤ t ∧ t < 16 ∧ tBy A c ((q : Int) + 1) t ≠ 0 ∧ 0 ≤ v t + tBy A c ((q : Int) + 1) t ∧ v t + tBy A c ((q : Int) + 1) t ≤ aSpan A c t - 1
    · obtain ⟨t, t1, t2, t3, t4, t5⟩ := cb
      rw [hop t] at t3 t4 t5
      have ht := spn t t1 t2 (by omega)
      have hvt := hv t t1 (by omega) ht.2
      have gt := ge t t1 t2
      have h3 : 3 ≤ pG (wT A c q) 16 := by
        rcases Int.lt_trichotomy s t with y | y | y
        · have g := ge2 s t s1 y t2
          have : 2 * 2 ≤ wT A c q s * wT A c q t := Int.mul_le_mul (by omega) (by omega) (by omega) (by omega)
          omega
        · subst y; omega
        · have g := ge2 t s t1 y s2
          have : 2 * 2 ≤ wT A c q t * wT A c q s := Int.mul_le_mul (by omega) (by omega) (by omega) (by omega)
          omega
      refine ⟨2, ad_2 _ _ _ _, ?_⟩
      have := Int.mul_le_mul h3 h3 (by omega) (by omega)
      have t2 : th 2 = 9 := by decide
      omega
    · refine ⟨1, ad_1 (Or.inr ?_), ?_⟩
      · have := self ((q : Int) + 1) (by omega) (by omega) cb
        have e : ((32 + q + 1 : Nat) : Int) = 32 + ((q : Int) + 1) := by omega
        rw [e]; exact this
      · have h2 : 2 ≤ pG (wT A c q) 16 := by omega
        have := Int.mul_le_mul h2 h2 (by omega) (by omega)
        have t1 : th 1 = 3 := by decide
        omega
  · have na := self (q : Int) (by omega) (by omega) ca
    have ea : ((32 + q : Nat) : Int) = 32 + (q : Int) := by omega
    by_cases cb : ∃ t : Int, 0 ≤ t ∧ t < 16 ∧ tBy A c ((q : Int) + 1) t ≠ 0 ∧ 0 ≤ v t + tBy A c ((q : Int) + 1) t ∧ v t + tBy A c ((q : Int) + 1) t ≤ aSpan A c t - 1
    · obtain ⟨t, t1, t2, t3, t4, t5⟩ := cb
      rw [hop t] at t3 t4 t5
      have ht := spn t t1 t2 (by omega)
      have hvt := hv t t1 (by omega) ht.2
      have gt := ge t t1 t2
      refine ⟨1, ad_1 (Or.inl (by rw [ea]; exact na)), ?_⟩
      have h2 : 2 ≤ pG (wT A c q) 16 := by omega
      have := Int.mul_le_mul h2 h2 (by omega) (by omega)
      have t1 : th 1 = 3 := by decide
      omega
    · refine ⟨0, ad_0 (by rw [ea]; exact na) ?_, ?_⟩
      · have := self ((q : Int) + 1) (by omega) (by omega) cb
        have e : ((32 + q + 1 : Nat) : Int) = 32 + ((q : Int) + 1) := by omega
        rw [e]; exact this
      · have := Int.mul_le_mul hpo hpo (by omega) (by omega)
        have t0 : th 0 = 1 := rfl
        omega
theorem cIn.dg {A : pM} {c : Int} (hI : cIn A c) : dgOk A c := fun x x1 x2 => by
  have hOk := hI.ok
  have hv : pOkv A c (stN A c x) := setV_ok hOk.1.2.2 _ x
  have hx : numV A c (stN A c x) 16 = x := numV_setx hOk.1.2.2 _ x1 x2
  have hwp : ∀ s : Nat, s < 16 → 1 ≤ wH A c s := fun s hs => by
    have := eSp_ran hOk.1.2.2 (s : Int) (by omega) (by omega)
    unfold wH; split <;> omega
  have hand : ∀ s : Nat, s ≤ 16 → Bd (adG A c x (2 * s)) (pG (wH A c) s) ∧ 1 ≤ pG (wH A c) s := fun s => by
    induction s with
    | zero => exact fun _ => ⟨⟨0, Int.le_refl _, Int.le_refl _⟩, Int.le_refl _⟩
    | succ s ih =>
      intro hs
      have i := ih (by omega)
      have hd := dg_hand hI hv s (by omega)
      rw [hx] at hd
      obtain ⟨d, d1, d2⟩ := hd
      have w := hwp s (by omega)
      refine ⟨Bd_s i.1 i.2 d d1 w d2, ?_⟩
      show 1 ≤ pG (wH A c) s * wH A c s
      have := Int.mul_le_mul i.2 w (by omega) (by omega)
      omega
  have tp : ∀ q : Int, 1 ≤ pG (wT A c q) 16 := fun q => (pG_le 16 (fun s hs => ⟨by
    have := eSp_ran hOk.1.2.2 (s : Int) (by omega) (by omega)
    unfold wT; split <;> omega, Int.le_refl _⟩)).1
  have h0 := hand 16 (by omega)
  have up : ∀ (a P Q : Int), 1 ≤ P → 1 ≤ Q → 1 ≤ P * Q := fun _ P Q hP hQ => by have := Int.mul_le_mul hP hQ (by omega) (by omega); omega
  have d0 := dg_tilt hI hv 0 (by omega)
  rw [hx] at d0
  obtain ⟨e0, a0, b0⟩ := d0
  have B0 := Bd_s h0.1 h0.2 e0 a0 (tp _) b0
  have P0 := up 0 _ _ h0.2 (tp ((0 : Nat) : Int))
  have d2 := dg_tilt hI hv 2 (by omega)
  rw [hx] at d2
  obtain ⟨e2, a2, b2⟩ := d2
  have B2 := Bd_s B0 P0 e2 a2 (tp _) b2
  have P2 := up 0 _ _ P0 (tp ((2 : Nat) : Int))
  have d4 := dg_tilt hI hv 4 (by omega)
  rw [hx] at d4
  obtain ⟨e4, a4, b4⟩ := d4
  have B4 := Bd_s B2 P2 e4 a4 (tp _) b4
  have P4 := up 0 _ _ P2 (tp ((4 : Nat) : Int))
  refine Bd_12 B4 P4 (Int.le_trans ?_ hOk.2.2)
  rw [pG_mul, pG_mul, pG_mul, pW_pG]
  refine (pG_le 16 (fun s hs => ?_)).2
  have sr := eSp_ran hOk.1.2.2 (s : Int) (by omega) (by omega)
  have k0 : tBy A c ((0 : Nat) : Int) s ≠ 0 → aSide A c s = 0 ∨ aSide A c s = 1 := fun z => by
    have x0 : iXor ((0 : Nat) : Int) 1 = 1 := by decide
    unfold tBy at z; rw [x0] at z; revert z; (repeat' split) <;> omega
  have k2 : tBy A c ((2 : Nat) : Int) s ≠ 0 → aSide A c s = 2 ∨ aSide A c s = 3 := fun z => by
    have x0 : iXor ((2 : Nat) : Int) 1 = 3 := by decide
    unfold tBy at z; rw [x0] at z; revert z; (repeat' split) <;> omega
  have k4 : tBy A c ((4 : Nat) : Int) s ≠ 0 → aSide A c s = 4 ∨ aSide A c s = 5 := fun z => by
    have x0 : iXor ((4 : Nat) : Int) 1 = 5 := by decide
    unfold tBy at z; rw [x0] at z; revert z; (repeat' split) <;> omega
  show 1 ≤ wH A c s * wT A c ((0 : Nat) : Int) s * wT A c ((2 : Nat) : Int) s * wT A c ((4 : Nat) : Int) s ∧ wH A c s * wT A c ((0 : Nat) : Int) s * wT A c ((2 : Nat) : Int) s * wT A c ((4 : Nat) : Int) s ≤ eSp A c s
  by_cases c0 : tBy A c ((0 : Nat) : Int) s ≠ 0
  · have e0 : wT A c ((0 : Nat) : Int) s = eSp A c s := if_pos c0
    have e2 : wT A c ((2 : Nat) : Int) s = 1 := if_neg (fun z => by have a := k0 c0; have b := k2 z; omega)
    have e4 : wT A c ((4 : Nat) : Int) s = 1 := if_neg (fun z => by have a := k0 c0; have b := k4 z; omega)
    have eh : wH A c s = 1 := if_neg (by have := tBy_kind c0; omega)
    rw [e0, e2, e4, eh, Int.one_mul, Int.mul_one, Int.mul_one]; omega
  · have e0 : wT A c ((0 : Nat) : Int) s = 1 := if_neg c0
    by_cases c2 : tBy A c ((2 : Nat) : Int) s ≠ 0
    · have e2 : wT A c ((2 : Nat) : Int) s = eSp A c s := if_pos c2
      have e4 : wT A c ((4 : Nat) : Int) s = 1 := if_neg (fun z => by have a := k2 c2; have b := k4 z; omega)
      have eh : wH A c s = 1 := if_neg (by have := tBy_kind c2; omega)
      rw [e0, e2, e4, eh, Int.one_mul, Int.one_mul, Int.mul_one]; omega
    · have e2 : wT A c ((2 : Nat) : Int) s = 1 := if_neg c2
      by_cases c4 : tBy A c ((4 : Nat) : Int) s ≠ 0
      · have e4 : wT A c ((4 : Nat) : Int) s = eSp A c s := if_pos c4
        have eh : wH A c s = 1 := if_neg (by have := tBy_kind c4; omega)
        rw [e0, e2, e4, eh, Int.one_mul, Int.one_mul, Int.one_mul]; omega
      · have e4 : wT A c ((4 : Nat) : Int) s = 1 := if_neg c4
        rw [e0, e2, e4, Int.mul_one, Int.mul_one, Int.mul_one]
        unfold wH; split <;> omega
