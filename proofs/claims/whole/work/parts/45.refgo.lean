/-! ===== the search as a function ===== -/
noncomputable def ldB (m : pM) (c : Int) (b : pM) (tk x mv : Int) : pM :=
  if mvN m c x mv = -1 then wr b 114 (38 * tk + mv) (-1) else wr (cmB b (mvN m c x mv) (b 109 x + 1) tk mv (opN m c (mvN m c x mv))) 114 (38 * tk + mv) (cmB b (mvN m c x mv) (b 109 x + 1) tk mv (opN m c (mvN m c x mv)) 110 (mvN m c x mv))
noncomputable def lmB (m : pM) (c : Int) (b : pM) (tk x : Int) : Nat → pM
  | 0 => b
  | k + 1 => ldB m c (lmB m c b tk x k) tk x k
noncomputable def tkB (m : pM) (c : Int) (b : pM) : pM := wr (lmB m c b (b 88 35) (b 108 (b 88 35)) 38) 88 35 (b 88 35 + 1)
noncomputable def goB (m : pM) (c : Int) : Nat → pM → pM
  | 0, b => b
  | f + 1, b => if b 88 35 < b 88 34 then goB m c f (tkB m c b) else b
theorem goB_succ (m : pM) (c : Int) (f : Nat) (b : pM) : goB m c (f + 1) b = if b 88 35 < b 88 34 then goB m c f (tkB m c b) else b := rfl
theorem goB_done (m : pM) (c : Int) (f : Nat) (b : pM) (h : ¬ b 88 35 < b 88 34) : goB m c f b = b := by
  cases f with
  | zero => rfl
  | succ f => rw [goB_succ, if_neg h]
/-- where a move leads, by orders -/
def LD (m : pM) (c : Int) (b : pM) (x mv l : Int) : Prop := (mvN m c x mv = -1 ∧ l = -1) ∨ (mvN m c x mv ≠ -1 ∧ b 109 (mvN m c x mv) ≠ -1 ∧ l = b 110 (mvN m c x mv))
theorem LD.e {m : pM} {c : Int} {b b' : pM} (h : SE b b') {x mv l : Int} (hl : LD m c b x mv l) : LD m c b' x mv l := by
  rcases hl with z | z
  · exact Or.inl z
  · have := h.2.1 _ z.2.1
    exact Or.inr ⟨z.1, by rw [this.1]; exact z.2.1, by rw [this.2]; exact z.2.2⟩
def FO (b : pM) : Prop := (b 88 36 = -1 ∧ ∀ k, 0 ≤ k → k < b 88 34 → b 111 k = 0) ∨ (0 ≤ b 88 36 ∧ b 88 36 < b 88 34 ∧ b 111 (b 88 36) ≠ 0 ∧ ∀ k, 0 ≤ k → k < b 88 36 → b 111 k = 0)
def GJ (m : pM) (c : Int) (b : pM) : Prop := SIq b ∧ (∀ k, 0 ≤ k → k < b 88 34 → b 108 k < pW m c 16) ∧ (∀ k, 0 ≤ k → k < b 88 34 → b 111 k = opN m c (b 108 k)) ∧ FO b
/-- a search of chest c as m has it, at work -/
def GI (m : pM) (c : Int) (b : pM) : Prop := GJ m c b ∧ ∀ k, 0 ≤ k → k < b 88 35 → ∀ j, 0 ≤ j → j < 38 → LD m c b (b 108 k) j (b 114 (38 * k + j))
theorem GJ_cm {m : pM} {c : Int} {b : pM} (h : GJ m c b) (hp : pW m c 16 ≤ 1024) {u lay fr by' : Int} (hu : 0 ≤ u ∧ u < pW m c 16) (hl : lay = 0 ∨ (0 ≤ fr ∧ fr < b 88 34 ∧ lay = b 109 (b 108 fr) + 1)) : GJ m c (cmB b u lay fr by' (opN m c u)) := by
  have hq := cmB_q (by' := by') (op := opN m c u) h.1 (show 0 ≤ u ∧ u < 1024 by omega) hl
  refine ⟨hq.1, ?_⟩
  by_cases hx : b 109 u ≠ -1
  · have e : cmB b u lay fr by' (opN m c u) = b := if_pos hx
    rw [e]; exact h.2
  · have e : cmB b u lay fr by' (opN m c u) = cmN b u lay fr by' (opN m c u) := if_neg hx
    have hx : b 109 u = -1 := Decidable.not_not.mp hx
    rw [e]
    obtain ⟨h109, h110, h108, h112, h113, h111, h34, h36, hk, ha⟩ := cmN_v b u lay fr by' (opN m c u)
    have h0 := h.1.1
    refine ⟨fun k k1 k2 => ?_, fun k k1 k2 => ?_, ?_⟩
    · rw [h34] at k2; rw [h108]
      by_cases e : k = b 88 34
      · rw [if_pos e]; exact hu.2
      · rw [if_neg e]; exact h.2.1 k k1 (by omega)
    · rw [h34] at k2; rw [h108, h111]
      by_cases e : k = b 88 34
      · rw [if_pos e, if_pos e]
      · rw [if_neg e, if_neg e]; exact h.2.2.1 k k1 (by omega)
    · unfold FO
      rw [h34, h36]
      rcases h.2.2.2 with z | z
      · by_cases e : opN m c u ≠ 0
        · rw [if_pos ⟨e, z.1⟩]
          refine Or.inr ⟨by omega, by omega, ?_, fun k k1 k2 => ?_⟩
          · rw [h111, if_pos rfl]; exact e
          · rw [h111, if_neg (by omega)]; exact z.2 k k1 k2
        · rw [if_neg (fun q => e q.1)]
          refine Or.inl ⟨z.1, fun k k1 k2 => ?_⟩
          rw [h111]
          by_cases q : k = b 88 34
          · rw [if_pos q]; exact Decidable.not_not.mp e
          · rw [if_neg q]; exact z.2 k k1 (by omega)
      · rw [if_neg (fun q => by omega)]
        refine Or.inr ⟨z.1, by omega, ?_, fun k k1 k2 => ?_⟩
        · rw [h111, if_neg (by omega)]; exact z.2.2.1
        · rw [h111, if_neg (by omega)]; exact z.2.2.2 k k1 k2
theorem GJ_114 {m : pM} {c : Int} {b : pM} (h : GJ m c b) (e x : Int) (he : 38 * b 88 35 ≤ e) : GJ m c (wr b 114 e x) := by
  have a : ∀ a, a ≠ 114 → wr b 114 e x a = b a := fun a q => wr_a _ _ _ q
  unfold GJ SIq SIr FO
  rw [a 88 (by omega), a 108 (by omega), a 109 (by omega), a 110 (by omega), a 111 (by omega), a 112 (by omega)]
  refine ⟨⟨h.1.1, h.1.2.1, h.1.2.2.1, h.1.2.2.2.1, fun j j1 j2 => ?_⟩, h.2⟩
  rw [wr_k _ _ _ _ (by omega)]; exact h.1.2.2.2.2 j j1 j2
theorem SE_114 (b : pM) (e x : Int) : SE b (wr b 114 e x) := by
  have a : ∀ a, a ≠ 114 → wr b 114 e x a = b a := fun a q => wr_a _ _ _ q
  unfold SE
  rw [a 88 (by omega), a 108 (by omega), a 109 (by omega), a 110 (by omega), a 111 (by omega), a 112 (by omega), a 113 (by omega)]
  exact ⟨Int.le_refl _, fun _ _ => ⟨rfl, rfl⟩, fun _ _ => ⟨rfl, rfl, rfl, rfl⟩⟩
theorem SF_114 (b : pM) (e x : Int) : SF b (wr b 114 e x) := ⟨fun a h1 h2 => wr_a _ _ _ (by omega), fun k _ _ _ => by rw [wr_a _ _ _ (by omega)]⟩
/-- one state is taken: j of its moves are done -/
def LI (m : pM) (c : Int) (b0 : pM) (tk : Int) (j : Int) (b : pM) : Prop := GI m c b ∧ b 88 35 = tk ∧ SE b0 b ∧ SF b0 b ∧ ∀ i, 0 ≤ i → i < j → LD m c b (b0 108 tk) i (b 114 (38 * tk + i))
theorem LI_s {m : pM} {c : Int} (hs : sOk m c) (hp : pW m c 16 ≤ 1024) {b0 b : pM} {tk : Int} (h0 : 0 ≤ tk) (h1 : tk < b0 88 34) (hb0 : SIq b0) (mv : Nat) (hm : mv < 38) (h : LI m c b0 tk mv b) : LI m c b0 tk ((mv : Int) + 1) (ldB m c b tk (b0 108 tk) mv) := by
  obtain ⟨hG, ht, hE, hF, hL⟩ := h
  have hx : b 108 tk = b0 108 tk := (hE.2.2 tk h1).1
  have hlt : tk < b 88 34 := by have := hE.1; omega
  have hr := mvN_ran hs (b0 108 tk) (mv := (mv : Int)) (by omega)
  unfold ldB
  by_cases e : mvN m c (b0 108 tk) mv = -1
  · rw [if_pos e]
    have hE1 := SE_114 b (38 * tk + mv) (-1)
    have hF1 := SF_114 b (38 * tk + mv) (-1)
    have h35 : wr b 114 (38 * tk + mv) (-1) 88 35 = tk := by rw [wr_a _ _ _ (by omega)]; exact ht
    have h108 : wr b 114 (38 * tk + mv) (-1) 108 = b 108 := wr_a _ _ _ (by omega)
    refine ⟨⟨GJ_114 hG.1 _ _ (by omega), fun k k1 k2 j j1 j2 => ?_⟩, h35, hE.tr hE1, hF.tr hF1, fun i i1 i2 => ?_⟩
    · rw [h35] at k2
      rw [h108, wr_k _ _ _ _ (by omega)]
      exact (hG.2 k k1 (by omega) j j1 j2).e hE1
    · by_cases q : i = mv
      · subst q; rw [wr_s]; exact Or.inl ⟨e, rfl⟩
      · rw [wr_k _ _ _ _ (by omega)]; exact (hL i i1 (by omega)).e hE1
  · rw [if_neg e]
    have hu : 0 ≤ mvN m c (b0 108 tk) mv ∧ mvN m c (b0 108 tk) mv < pW m c 16 := by omega
    have hl : b 109 (b0 108 tk) + 1 = 0 ∨ (0 ≤ tk ∧ tk < b 88 34 ∧ b 109 (b0 108 tk) + 1 = b 109 (b 108 tk) + 1) := Or.inr ⟨h0, hlt, by rw [hx]⟩
    have hJ := GJ_cm (by' := (mv : Int)) hG.1 hp hu hl
    have hq := cmB_q (by' := (mv : Int)) (op := opN m c (mvN m c (b0 108 tk) mv)) hG.1.1 (show 0 ≤ mvN m c (b0 108 tk) mv ∧ mvN m c (b0 108 tk) mv < 1024 by omega) hl
    have hE2 := cmB_E (u := mvN m c (b0 108 tk) mv) (lay := b 109 (b0 108 tk) + 1) (fr := tk) (by' := (mv : Int)) (op := opN m c (mvN m c (b0 108 tk) mv)) hG.1.1
    have hF2 := cmB_F b (mvN m c (b0 108 tk) mv) (b 109 (b0 108 tk) + 1) tk mv (opN m c (mvN m c (b0 108 tk) mv))
    obtain ⟨b2, eb2⟩ : ∃ b2, b2 = cmB b (mvN m c (b0 108 tk) mv) (b 109 (b0 108 tk) + 1) tk mv (opN m c (mvN m c (b0 108 tk) mv)) := ⟨_, rfl⟩
    rw [← eb2] at hJ hq hE2 hF2 ⊢
    have hE1 := SE_114 b2 (38 * tk + mv) (b2 110 (mvN m c (b0 108 tk) mv))
    have hF1 := SF_114 b2 (38 * tk + mv) (b2 110 (mvN m c (b0 108 tk) mv))
    have h35 : wr b2 114 (38 * tk + mv) (b2 110 (mvN m c (b0 108 tk) mv)) 88 35 = tk := by rw [wr_a _ _ _ (by omega), hF2.2.1]; exact ht
    have h108 : wr b2 114 (38 * tk + mv) (b2 110 (mvN m c (b0 108 tk) mv)) 108 = b2 108 := wr_a _ _ _ (by omega)
    refine ⟨⟨GJ_114 hJ _ _ (by rw [hF2.2.1]; omega), fun k k1 k2 j j1 j2 => ?_⟩, h35, (hE.tr hE2).tr hE1, (hF.tr hF2.1).tr hF1, fun i i1 i2 => ?_⟩
    · rw [h35] at k2
      rw [h108, wr_k _ _ _ _ (by omega), hF2.2.2, (hE2.2.2 k (by omega)).1]
      exact ((hG.2 k k1 (by omega) j j1 j2).e hE2).e hE1
    · by_cases q : i = mv
      · subst q; rw [wr_s]
        exact Or.inr ⟨e, by rw [wr_a _ _ _ (by omega)]; exact hq.2.1, by rw [wr_a _ _ _ (by omega)]⟩
      · rw [wr_k _ _ _ _ (by omega), hF2.2.2]; exact ((hL i i1 (by omega)).e hE2).e hE1
theorem LI_n {m : pM} {c : Int} (hs : sOk m c) (hp : pW m c 16 ≤ 1024) {b0 : pM} (h : GI m c b0) (h1 : b0 88 35 < b0 88 34) (k : Nat) (hk : k ≤ 38) : LI m c b0 (b0 88 35) k (lmB m c b0 (b0 88 35) (b0 108 (b0 88 35)) k) := by
  have h0 := h.1.1.1
  induction k with
  | zero => exact ⟨h, rfl, SE.rf b0, SF.rf b0, fun i i1 i2 => absurd i2 (by omega)⟩
  | succ k ih => exact LI_s hs hp h0.2.2.1 h1 h.1.1 k (by omega) (ih (by omega))
theorem GI_tk {m : pM} {c : Int} (hs : sOk m c) (hp : pW m c 16 ≤ 1024) {b0 : pM} (h : GI m c b0) (h1 : b0 88 35 < b0 88 34) : GI m c (tkB m c b0) ∧ SE b0 (tkB m c b0) ∧ SF b0 (tkB m c b0) := by
  have hL := LI_n hs hp h h1 38 (by omega)
  have h0 := h.1.1.1
  unfold tkB
  obtain ⟨b, eb⟩ : ∃ b, b = lmB m c b0 (b0 88 35) (b0 108 (b0 88 35)) 38 := ⟨_, rfl⟩
  rw [← eb] at hL ⊢
  obtain ⟨hG, ht, hE, hF, hL⟩ := hL
  have a : ∀ a, a ≠ 88 → wr b 88 35 (b0 88 35 + 1) a = b a := fun a q => wr_a _ _ _ q
  have f34 : wr b 88 35 (b0 88 35 + 1) 88 34 = b 88 34 := wr_k _ _ _ _ (by omega)
  have f36 : wr b 88 35 (b0 88 35 + 1) 88 36 = b 88 36 := wr_k _ _ _ _ (by omega)
  have f35 : wr b 88 35 (b0 88 35 + 1) 88 35 = b0 88 35 + 1 := wr_s _ _ _ _
  have hE1 := hE.1
  have g0 := hG.1.1.1
  have h114 : ∀ k, 0 ≤ k → k < b0 88 35 + 1 → ∀ j, 0 ≤ j → j < 38 → LD m c b (b 108 k) j (b 114 (38 * k + j)) := fun k k1 k2 j j1 j2 => by
    by_cases q : k = b0 88 35
    · subst q; rw [(hE.2.2 (b0 88 35) h1).1]; exact hL j j1 j2
    · exact hG.2 k k1 (by omega) j j1 j2
  refine ⟨⟨⟨?_, ?_, ?_, ?_⟩, ?_⟩, ?_, ?_⟩
  · unfold SIq SIr
    rw [f34, f35, f36, a 108 (by omega), a 109 (by omega), a 110 (by omega), a 112 (by omega), a 114 (by omega)]
    refine ⟨by omega, hG.1.1.2.1, hG.1.1.2.2.1, hG.1.1.2.2.2.1, fun e e1 e2 => ?_⟩
    have h9 := h114 (e / 38) (by omega) (by omega) (e % 38) (by omega) (by omega)
    rw [show 38 * (e / 38) + e % 38 = e by omega] at h9
    rcases h9 with z | z
    · exact Or.inl z.2
    · have hn := mvN_ran hs (b 108 (e / 38)) (mv := e % 38) (by omega)
      have := hG.1.1.2.2.1 (mvN m c (b 108 (e / 38)) (e % 38)) (by have := z.1; omega) (by have := z.1; omega)
      rcases this with y | y
      · exact absurd y z.2.1
      · rw [z.2.2]; exact Or.inr ⟨y.1, y.2.1⟩
  · rw [f34, a 108 (by omega)]; exact hG.1.2.1
  · rw [f34, a 108 (by omega), a 111 (by omega)]; exact hG.1.2.2.1
  · unfold FO; rw [f34, f36, a 111 (by omega)]; exact hG.1.2.2.2
  · rw [f35, a 108 (by omega), a 114 (by omega)]
    intro k k1 k2 j j1 j2
    have := h114 k k1 k2 j j1 j2
    unfold LD at this ⊢
    rw [a 109 (by omega), a 110 (by omega)]; exact this
  · unfold SE
    rw [f34, a 108 (by omega), a 109 (by omega), a 110 (by omega), a 111 (by omega), a 112 (by omega), a 113 (by omega)]; exact hE
  · refine ⟨fun x h1 h2 => by rw [a x h1]; exact hF.1 x h1 h2, fun k h1 h2 h3 => by rw [wr_k _ _ _ _ h2]; exact hF.2 k h1 h2 h3⟩
theorem GI_go {m : pM} {c : Int} (hs : sOk m c) (hp : pW m c 16 ≤ 1024) (f : Nat) {b0 : pM} (h : GI m c b0) : GI m c (goB m c f b0) ∧ SE b0 (goB m c f b0) ∧ SF b0 (goB m c f b0) := by
  induction f generalizing b0 with
  | zero => exact ⟨h, SE.rf b0, SF.rf b0⟩
  | succ f ih =>
    rw [goB_succ]
    by_cases e : b0 88 35 < b0 88 34
    · rw [if_pos e]
      have h1 := GI_tk hs hp h e
      have h2 := ih h1.1
      exact ⟨h2.1, h1.2.1.tr h2.2.1, h1.2.2.tr h2.2.2⟩
    · rw [if_neg e]; exact ⟨h, SE.rf b0, SF.rf b0⟩
