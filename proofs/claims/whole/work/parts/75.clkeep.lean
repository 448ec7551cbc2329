/-! ===== the whole relation kept: plain changes, one chest changed, what is built ===== -/
theorem NR_c {A A2 m m1 : pM} (h : NR A m) (e1 : A2 88 19 = A 88 19) (e2 : A2 88 1 = A 88 1) (e3 : A2 88 2 = A 88 2) (e4 : A2 103 = A 103) (m2 : m1 2 = m 2) (m3 : m1 3 = m 3) : NR A2 m1 := by
  unfold NR; rw [e1, e2, e3, e4, m2, m3]; exact h
theorem RBn_c {m m1 : pM} (h : RBn m) (e : ∀ a, 59 ≤ a → a ≤ 76 → a ≠ 66 → m1 a = m a) : RBn m1 := by
  obtain ⟨A9, c9, v9, q1, q2, q3⟩ := h
  exact ⟨A9, c9, v9, q1, q2.m (fun a a1 a2 _ a4 => e a (by omega) (by omega) a4), q3.m (e _ (by omega) (by omega) (by omega))⟩
theorem RTy_c {A A2 m m1 : pM} (h : RTy A m) (e1 : A2 88 24 = A 88 24) (e2 : A2 106 = A 106) (e3 : m1 1 11 = m 1 11) (e4 : m1 86 = m 86) : RTy A2 m1 := by
  unfold RTy; rw [e1, e2, e3, e4]; exact h
theorem RAt_c {A A2 m m1 : pM} (h : RAt A m) (e1 : A2 88 28 = A 88 28) (e2 : A2 88 29 = A 88 29) (e3 : A2 88 30 = A 88 30) (e4 : A2 88 0 = A 88 0) (f1 : m1 1 13 = m 1 13) (f2 : m1 1 14 = m 1 14) (f3 : m1 1 15 = m 1 15) (f4 : m1 1 16 = m 1 16) : RAt A2 m1 := by
  unfold RAt; rw [e1, e2, e3, e4, f1, f2, f3, f4]; exact h
theorem RMk_c {A A2 m m1 : pM} (h : RMk A m) (e1 : A2 88 50 = A 88 50) (e2 : A2 88 51 = A 88 51) (e3 : A2 88 52 = A 88 52) (e4 : A2 119 = A 119) (f1 : m1 78 = m 78) (f2 : m1 79 = m 79) : RMk A2 m1 := by
  unfold RMk MR; rw [e1, e2, e3, e4, f1, f2]; exact h
theorem REx_c {A A2 m m1 : pM} (h : REx A m) (e1 : A2 88 56 = A 88 56) (e2 : A2 122 = A 122) (f1 : m1 80 = m 80) (f2 : m1 81 = m 81) : REx A2 m1 := by
  unfold REx WS LW; rw [e1, e2, f1, f2]; exact h
/-- a chest's block is the same in both memories -/
def chX (A A2 : pM) (c : Int) : Prop := (∀ r, 0 ≤ r → r ≤ 3 → A2 89 (4 * c + r) = A 89 (4 * c + r)) ∧ (∀ a, 90 ≤ a → a ≤ 93 → ∀ s, 0 ≤ s → s ≤ 15 → A2 a (16 * c + s) = A a (16 * c + s)) ∧ A2 94 c = A 94 c ∧ (∀ a, 95 ≤ a → a ≤ 97 → ∀ k, 0 ≤ k → k < 40 → A2 a (40 * c + k) = A a (40 * c + k)) ∧ (∀ j, 0 ≤ j → j < 240 → A2 98 (240 * c + j) = A 98 (240 * c + j)) ∧ A2 99 c = A 99 c ∧ A2 100 c = A 100 c ∧ A2 101 c = A 101 c ∧ ∀ i, 0 ≤ i → i < 30 → A2 102 (30 * c + i) = A 102 (30 * c + i)
theorem chX.rf {A A2 : pM} (h : ∀ a, 89 ≤ a → a ≤ 102 → A2 a = A a) (c : Int) : chX A A2 c := ⟨fun r _ _ => by rw [h 89 (by omega) (by omega)], fun a a1 a2 s _ _ => by rw [h a (by omega) (by omega)], by rw [h 94 (by omega) (by omega)], fun a a1 a2 s _ _ => by rw [h a (by omega) (by omega)], fun j _ _ => by rw [h 98 (by omega) (by omega)], by rw [h 99 (by omega) (by omega)], by rw [h 100 (by omega) (by omega)], by rw [h 101 (by omega) (by omega)], fun i _ _ => by rw [h 102 (by omega) (by omega)]⟩
theorem chX.tr {A A2 A3 : pM} {c : Int} (h : chX A A2 c) (g : chX A2 A3 c) : chX A A3 c := ⟨fun r r1 r2 => (g.1 r r1 r2).trans (h.1 r r1 r2), fun a a1 a2 s s1 s2 => (g.2.1 a a1 a2 s s1 s2).trans (h.2.1 a a1 a2 s s1 s2), g.2.2.1.trans h.2.2.1, fun a a1 a2 s s1 s2 => (g.2.2.2.1 a a1 a2 s s1 s2).trans (h.2.2.2.1 a a1 a2 s s1 s2), fun j j1 j2 => (g.2.2.2.2.1 j j1 j2).trans (h.2.2.2.2.1 j j1 j2), g.2.2.2.2.2.1.trans h.2.2.2.2.2.1, g.2.2.2.2.2.2.1.trans h.2.2.2.2.2.2.1, g.2.2.2.2.2.2.2.1.trans h.2.2.2.2.2.2.2.1, fun i i1 i2 => (g.2.2.2.2.2.2.2.2 i i1 i2).trans (h.2.2.2.2.2.2.2.2 i i1 i2)⟩
theorem chX.q {A A2 : pM} {c : Int} (h : chX A A2 c) (h94 : A 94 c ≤ 40) : chEq A c A2 c := ⟨h.1, fun s s1 s2 => ⟨h.2.1 90 (by omega) (by omega) s s1 s2, fun _ => ⟨h.2.1 91 (by omega) (by omega) s s1 s2, h.2.1 93 (by omega) (by omega) s s1 s2⟩⟩, h.2.2.1, fun k k1 k2 => ⟨h.2.2.2.1 95 (by omega) (by omega) k k1 (by omega), h.2.2.2.1 96 (by omega) (by omega) k k1 (by omega), h.2.2.2.1 97 (by omega) (by omega) k k1 (by omega), fun i i1 i2 => by
  have := h.2.2.2.2.1 (6 * k + i) (by omega) (by omega)
  rw [show 6 * (40 * c + k) + i = 240 * c + (6 * k + i) by omega]; exact this⟩⟩
theorem cIn_x {A A2 : pM} {c : Int} (h : chX A A2 c) (hI : cIn A c) : cIn A2 c := by
  have hq := h.q hI.2.2.1.1.2
  obtain ⟨h1, h2, h3, h4, h5, h6, h7, h8, h9⟩ := h
  obtain ⟨i1, i2, i3, i4, i5, i6⟩ := hI
  refine ⟨fun r r1 r2 => by rw [h1 r r1 r2]; exact i1 r r1 r2, fun s s1 s2 => ?_, ⟨by rw [h3]; exact i3.1, fun k k1 k2 => ?_⟩, by rw [h6]; exact i4, by rw [h7]; exact i5, by rw [hq.w 16 (by omega)]; exact i6⟩
  · rw [h2 90 (by omega) (by omega) s s1 s2, h2 91 (by omega) (by omega) s s1 s2, h2 92 (by omega) (by omega) s s1 s2, h2 93 (by omega) (by omega) s s1 s2, h1 (s / 4) (by omega) (by omega)]; exact i2 s s1 s2
  · rw [h3] at k2
    have k3 := i3.1
    have i7 := i3.2 k k1 k2
    rw [h4 95 (by omega) (by omega) k k1 (by omega), h4 96 (by omega) (by omega) k k1 (by omega), h4 97 (by omega) (by omega) k k1 (by omega)]
    refine ⟨i7.1, i7.2.1, i7.2.2.1, fun i j1 j2 => ?_⟩
    have e := h5 (6 * k + i) (by omega) (by omega)
    have e2 := i7.2.2.2 i j1 j2
    rw [show 6 * (40 * c + k) + i = 240 * c + (6 * k + i) by omega] at e2 ⊢
    rw [e]; exact e2
theorem RCx.x {A A2 : pM} {c : Int} {m : pM} {b : Nat} (h : RCx A c m b) (hI : cIn A c) (e : chX A A2 c) (hk : A 101 c ≤ 30) : RCx A2 c m b := h.A hI (e.q hI.2.2.1.1.2) (fun s s1 s2 => e.2.1 92 (by omega) (by omega) s s1 s2) e.2.2.2.2.2.1 e.2.2.2.2.2.2.1 e.2.2.2.2.2.2.2.1 e.2.2.2.2.2.2.2.2 hk
/-- the chests stay; notes and search stay -/
theorem RG_plain {A A2 m m1 : pM} {n : Nat} (h : RG A m n) (hI : IOk A) (hK : KOk A) (eA : ∀ a, 89 ≤ a → a ≤ 103 → A2 a = A a) (eS : ∀ a, 108 ≤ a → a ≤ 114 → A2 a = A a) (kA : ∀ k, (k = 1 ∨ k = 2 ∨ k = 19 ∨ (31 ≤ k ∧ k ≤ 36)) → A2 88 k = A 88 k) (em : ∀ a, ((2 ≤ a ∧ a ≤ 76) ∨ 123 ≤ a) → m1 a = m a) (e10 : m1 1 10 = m 1 10) (hT : RTy A2 m1) (hAt : RAt A2 m1) (hM : RMk A2 m1) (hE : REx A2 m1) : RG A2 m1 n := by
  obtain ⟨h1, h2, h3, h4, h5, h6, h7, h8⟩ := h
  refine ⟨NR_c h1 (kA _ (by omega)) (kA _ (by omega)) (kA _ (by omega)) (eA _ (by omega) (by omega)) (em _ (by omega)) (em _ (by omega)), fun c b c1 c2 hb => ?_, RBn_c h3 (fun a a1 a2 _ => em a (by omega)), hT, hAt, hM, hE, ?_⟩
  · exact ((h2 c b c1 c2 hb).m (fun a a1 a2 _ => em a (by omega))).x (hI c c1 c2) (chX.rf (fun a a1 a2 => eA a a1 (by omega)) c) (hK c c1 c2).2.1
  · exact RSe_c h8 eS (fun k k1 k2 => kA k (by omega)) (fun a a1 a2 _ => em a (by omega)) e10
/-- one chest changed, notes and the last answer too -/
theorem RG_gen1 {A A2 m m1 : pM} {n : Nat} {k : Int} {kb : Nat} (h : RG A m n) (hI : IOk A) (hK : KOk A) (k1 : 0 ≤ k) (k2 : k ≤ 2) (hkb : (kb : Int) = 5 + 18 * k) (hc : RCx A2 k m1 kb) (hch : ∀ c, 0 ≤ c → c ≤ 2 → c ≠ k → chX A A2 c) (hN : NR A2 m1) (hAt : RAt A2 m1) (eA : ∀ a, 106 ≤ a → a ≤ 122 → a ≠ 107 → A2 a = A a) (kA : ∀ j, (j = 24 ∨ (31 ≤ j ∧ j ≤ 36) ∨ (50 ≤ j ∧ j ≤ 56)) → A2 88 j = A 88 j) (em : ∀ a, a ≠ 1 → a ≠ 2 → a ≠ 3 → a ≠ 87 → (a < kb ∨ kb + 17 < a) → m1 a = m a) (e10 : m1 1 10 = m 1 10) (e11 : m1 1 11 = m 1 11) : RG A2 m1 n := by
  obtain ⟨h1, h2, h3, h4, h5, h6, h7, h8⟩ := h
  refine ⟨hN, fun c b c1 c2 hb => ?_, RBn_c h3 (fun a a1 a2 _ => em a (by omega) (by omega) (by omega) (by omega) (by omega)), RTy_c h4 (kA _ (by omega)) (eA _ (by omega) (by omega) (by omega)) e11 (em _ (by omega) (by omega) (by omega) (by omega) (by omega)), hAt, RMk_c h6 (kA _ (by omega)) (kA _ (by omega)) (kA _ (by omega)) (eA _ (by omega) (by omega) (by omega)) (em _ (by omega) (by omega) (by omega) (by omega) (by omega)) (em _ (by omega) (by omega) (by omega) (by omega) (by omega)), REx_c h7 (kA _ (by omega)) (eA _ (by omega) (by omega) (by omega)) (em _ (by omega) (by omega) (by omega) (by omega) (by omega)) (em _ (by omega) (by omega) (by omega) (by omega) (by omega)), ?_⟩
  · by_cases q : c = k
    · subst q
      obtain rfl : kb = b := by omega
      exact hc
    · exact ((h2 c b c1 c2 hb).m (fun a a1 a2 _ => em a (by omega) (by omega) (by omega) (by omega) (by omega))).x (hI c c1 c2) (hch c c1 c2 q) (hK c c1 c2).2.1
  · exact RSe_c h8 (fun a a1 a2 => eA a (by omega) (by omega) (by omega)) (fun j j1 j2 => kA j (by omega)) (fun a a1 a2 _ => em a (by omega) (by omega) (by omega) (by omega) (by omega)) e10
/-- one chest changed -/
theorem RG_one {A A2 m m1 : pM} {n : Nat} {k : Int} {kb : Nat} (h : RG A m n) (hI : IOk A) (hK : KOk A) (k1 : 0 ≤ k) (k2 : k ≤ 2) (hkb : (kb : Int) = 5 + 18 * k) (hc : RCx A2 k m1 kb) (hch : ∀ c, 0 ≤ c → c ≤ 2 → c ≠ k → chX A A2 c) (eA : ∀ a, 103 ≤ a → a ≤ 122 → a ≠ 104 → a ≠ 105 → a ≠ 107 → A2 a = A a) (kA : ∀ j, j ≠ 21 → j ≠ 23 → j ≠ 27 → j ≠ 44 → A2 88 j = A 88 j) (em : ∀ a, a ≠ 87 → (a < kb ∨ kb + 17 < a) → m1 a = m a) : RG A2 m1 n := by
  have e1 : m1 1 = m 1 := em 1 (by omega) (by omega)
  refine RG_gen1 h hI hK k1 k2 hkb hc hch (NR_c h.1 (kA _ (by omega) (by omega) (by omega) (by omega)) (kA _ (by omega) (by omega) (by omega) (by omega)) (kA _ (by omega) (by omega) (by omega) (by omega)) (eA _ (by omega) (by omega) (by omega) (by omega) (by omega)) (em _ (by omega) (by omega)) (em _ (by omega) (by omega))) (RAt_c h.2.2.2.2.1 (kA _ (by omega) (by omega) (by omega) (by omega)) (kA _ (by omega) (by omega) (by omega) (by omega)) (kA _ (by omega) (by omega) (by omega) (by omega)) (kA _ (by omega) (by omega) (by omega) (by omega)) (by rw [e1]) (by rw [e1]) (by rw [e1]) (by rw [e1])) (fun a a1 a2 a3 => eA a (by omega) a2 (by omega) (by omega) a3) (fun j hj => kA j (by omega) (by omega) (by omega) (by omega)) (fun a _ _ _ a4 a5 => em a a4 a5) (by rw [e1]) (by rw [e1])
/-- what is built lets kept and searched states go -/
def bltM (m : pM) (b : Nat) (c : Int) : pM := if m 1 10 ≠ 0 ∧ m 123 9 = c then wr (wr m (b + 16) 2 0) 123 11 1 else wr m (b + 16) 2 0
theorem bltM_a (m : pM) (b : Nat) (c : Int) (a : Nat) (h1 : a ≠ b + 16) (h2 : a ≠ 123) : bltM m b c a = m a := by
  unfold bltM; split
  · rw [wr_a _ _ _ h2, wr_a _ _ _ h1]
  · rw [wr_a _ _ _ h1]
theorem RG_built {A m : pM} {n : Nat} {k : Int} {kb : Nat} (h : RG A m n) (hI : IOk A) (hK : KOk A) (k1 : 0 ≤ k) (k2 : k ≤ 2) (hkb : (kb : Int) = 5 + 18 * k) : RG (rChg A k) (bltM m kb k) n := by
  have eA : ∀ a, a ≠ 88 → a ≠ 101 → rChg A k a = A a := fun a q1 q2 => by unfold rChg; rw [wr_a _ _ _ q1, wr_a _ _ _ q2]
  have kA : ∀ j, j ≠ 32 → rChg A k 88 j = A 88 j := fun j q => by unfold rChg; rw [wr_k _ _ _ _ q, wr_a _ _ _ (by omega)]
  have k32 : rChg A k 88 32 = (if A 88 32 ≠ 0 ∨ (A 88 31 ≠ 0 ∧ A 88 33 = k) then 1 else 0) := by unfold rChg; rw [wr_s]
  have e101 : ∀ c, rChg A k 101 c = if c = k then 0 else A 101 c := fun c => by
    unfold rChg; rw [wr_a _ _ _ (by omega)]; unfold wr; by_cases q : c = k <;> simp [q]
  have em := bltM_a m kb k
  have e16 : ∀ j, j ≠ 2 → bltM m kb k (kb + 16) j = m (kb + 16) j := fun j q => by
    unfold bltM; split
    · rw [wr_a _ _ _ (by omega), wr_k _ _ _ _ q]
    · rw [wr_k _ _ _ _ q]
  have e162 : bltM m kb k (kb + 16) 2 = 0 := by
    unfold bltM; split
    · rw [wr_a _ _ _ (by omega), wr_s]
    · rw [wr_s]
  have e123 : ∀ j, j ≠ 11 → bltM m kb k 123 j = m 123 j := fun j q => by
    unfold bltM; split
    · rw [wr_k _ _ _ _ q, wr_a _ _ _ (by omega)]
    · rw [wr_a _ _ _ (by omega)]
  have e11 : bltM m kb k 123 11 = if m 1 10 ≠ 0 ∧ m 123 9 = k then 1 else m 123 11 := by
    unfold bltM; split
    · rw [wr_s]
    · rw [wr_a _ _ _ (by omega)]
  obtain ⟨h1, h2, h3, h4, h5, h6, h7, h8⟩ := h
  have e1 : bltM m kb k 1 = m 1 := em 1 (by omega) (by omega)
  refine ⟨NR_c h1 (kA _ (by omega)) (kA _ (by omega)) (kA _ (by omega)) (eA _ (by omega) (by omega)) (em _ (by omega) (by omega)) (em _ (by omega) (by omega)), fun c b c1 c2 hb => ?_, RBn_c h3 (fun a a1 a2 _ => em a (by omega) (by omega)), RTy_c h4 (kA _ (by omega)) (eA _ (by omega) (by omega)) (by rw [e1]) (em _ (by omega) (by omega)), RAt_c h5 (kA _ (by omega)) (kA _ (by omega)) (kA _ (by omega)) (kA _ (by omega)) (by rw [e1]) (by rw [e1]) (by rw [e1]) (by rw [e1]), RMk_c h6 (kA _ (by omega)) (kA _ (by omega)) (kA _ (by omega)) (eA _ (by omega) (by omega)) (em _ (by omega) (by omega)) (em _ (by omega) (by omega)), REx_c h7 (kA _ (by omega)) (eA _ (by omega) (by omega)) (em _ (by omega) (by omega)) (em _ (by omega) (by omega)), ?_⟩
  · obtain ⟨q1, q2, q3, q4⟩ := h2 c b c1 c2 hb
    by_cases q : c = k
    · subst q
      obtain rfl : kb = b := by omega
      refine ⟨CS_t (hI c c1 c2) (q1.m (fun a a1 a2 _ _ => em a (by omega) (by omega))) (chEq.of (fun a a1 a2 _ => eA a (by omega) (by omega))), CV_t (q2.m (em _ (by omega) (by omega))) (fun s s1 s2 => ⟨by rw [eA 90 (by omega) (by omega)], fun _ => by show rChg A c 92 _ = A 92 _; rw [eA 92 (by omega) (by omega)]⟩), ?_, ?_⟩
      · rw [em kb (by omega) (by omega), eA 99 (by omega) (by omega), eA 100 (by omega) (by omega)]; exact q3
      · refine ⟨by rw [e162, e101, if_pos rfl], by rw [e16 1 (by omega)]; exact q4.2.1, fun i i1 i2 => ?_⟩
        rw [e101, if_pos rfl] at i2; omega
    · refine RCx.x (A := A) ?_ (hI c c1 c2) ⟨fun r _ _ => by rw [eA 89 (by omega) (by omega)], fun a a1 a2 s _ _ => by rw [eA a (by omega) (by omega)], by rw [eA 94 (by omega) (by omega)], fun a a1 a2 s _ _ => by rw [eA a (by omega) (by omega)], fun j _ _ => by rw [eA 98 (by omega) (by omega)], by rw [eA 99 (by omega) (by omega)], by rw [eA 100 (by omega) (by omega)], by rw [e101, if_neg q], fun i _ _ => by rw [eA 102 (by omega) (by omega)]⟩ (hK c c1 c2).2.1
      exact RCx.m ⟨q1, q2, q3, q4⟩ (fun a a1 a2 _ => em a (by omega) (by omega))
  · unfold RSe at h8 ⊢
    rw [e1, kA 31 (by omega), e123 10 (by omega)]
    rcases h8 with g | g
    · exact Or.inl g
    · refine Or.inr ⟨g.1, g.2.1, g.2.2.1, fun z => ?_⟩
      rw [kA 31 (by omega)] at z
      obtain ⟨w1, w2, w3, w4⟩ := g.2.2.2 z
      rw [e11, k32, e123 9 (by omega), kA 33 (by omega), e123 8 (by omega)]
      refine ⟨?_, w2, SRG_c w3 (fun a a1 a2 => eA a (by omega) (by omega)) (kA _ (by omega)) (kA _ (by omega)) (kA _ (by omega)) (fun a a1 a2 _ => em a (by omega) (by omega)) (fun j j1 j2 => e123 j (by omega)), fun y => w4 ?_⟩
      · have g1 := g.1
        by_cases q : m 123 9 = k
        · rw [if_pos ⟨by omega, q⟩, if_pos (Or.inr ⟨z, by omega⟩)]
        · rw [if_neg (fun y => q y.2)]
          by_cases q2 : A 88 32 = 0
          · rw [if_neg (by omega), w1, q2]
          · rw [if_pos (Or.inl q2), w1]; omega
      · by_cases q2 : A 88 32 = 0
        · exact q2
        · rw [if_pos (Or.inl q2)] at y; omega
/-! ===== what the reference keeps ===== -/
def RIt (A : pM) : Prop := (0 ≤ A 88 24 ∧ A 88 24 ≤ 40) ∧ ∀ j, 0 ≤ j → j < A 88 24 → 0 ≤ A 106 j ∧ A 106 j < 38
def RIm (A : pM) : Prop := ∀ j, 0 ≤ j → j < 1024 → A 119 j = 0 ∨ A 119 j = 1
theorem RI_c {A A2 : pM} (h : RI A) (hI2 : IOk A2) (hK2 : KOk A2) (h19 : 0 ≤ A2 88 19 ∧ A2 88 19 ≤ 700000) (h3 : A2 88 3 = 0) (hT : RIt A2) (hM : RIm A2) (eS : ∀ a, 108 ≤ a → a ≤ 115 → A2 a = A a) (kA : ∀ k, 31 ≤ k → k ≤ 44 → k ≠ 32 → A2 88 k = A 88 k) (h32 : A 88 31 ≠ 0 → A2 88 32 = 0 → A 88 32 = 0 ∧ chEq A (A 88 33) A2 (A 88 33)) : RI A2 := by
  obtain ⟨r1, r2, r3, r4, r5, r6, r7, r8, r9⟩ := h
  refine ⟨hI2, hK2, h19, h3, hT, ?_, ?_, ?_, hM⟩
  · unfold SI SIs at r6 ⊢
    rw [kA 31 (by omega) (by omega) (by omega), kA 34 (by omega) (by omega) (by omega), kA 35 (by omega) (by omega) (by omega), kA 36 (by omega) (by omega) (by omega), eS 108 (by omega) (by omega), eS 109 (by omega) (by omega), eS 110 (by omega) (by omega), eS 112 (by omega) (by omega), eS 114 (by omega) (by omega)]; exact r6
  · unfold HF rdR at r7 ⊢
    rw [kA 44 (by omega) (by omega) (by omega), kA 34 (by omega) (by omega) (by omega), eS 111 (by omega) (by omega), eS 114 (by omega) (by omega), eS 115 (by omega) (by omega)]; exact r7
  · intro z
    rw [kA 31 (by omega) (by omega) (by omega)] at z
    have q := r8 z
    rw [kA 33 (by omega) (by omega) (by omega)]
    refine ⟨q.1, fun y => ?_⟩
    obtain ⟨p1, p2⟩ := h32 z y
    exact GI_c (cq_GI p2 (r1 _ q.1.1 q.1.2) (hI2 _ q.1.1 q.1.2).ok.1 (q.2 p1)) (fun a a1 a2 => eS a a1 (by omega)) (kA 34 (by omega) (by omega) (by omega)) (kA 35 (by omega) (by omega) (by omega)) (kA 36 (by omega) (by omega) (by omega))
/-- nothing of weight changed -/
theorem RI_n {A A2 : pM} (h : RI A) (eA : ∀ a, 89 ≤ a → a ≤ 102 → A2 a = A a) (e6 : A2 106 = A 106) (e119 : A2 119 = A 119) (eS : ∀ a, 108 ≤ a → a ≤ 115 → A2 a = A a) (h19 : 0 ≤ A2 88 19 ∧ A2 88 19 ≤ 700000) (kA : ∀ k, (k = 3 ∨ k = 24 ∨ (31 ≤ k ∧ k ≤ 44)) → A2 88 k = A 88 k) : RI A2 := by
  refine RI_c h (IOk_c h.1 (fun a a1 a2 => eA a a1 (by omega))) (KOk_c h.2.1 (eA _ (by omega) (by omega)) (eA _ (by omega) (by omega))) h19 (by rw [kA 3 (by omega)]; exact h.2.2.2.1) ?_ ?_ eS (fun k k1 k2 _ => kA k (by omega)) (fun _ z => ⟨by rw [kA 32 (by omega)] at z; exact z, chEq.of (fun a a1 a2 _ => eA a a1 (by omega))⟩)
  · unfold RIt; rw [kA 24 (by omega), e6]; exact h.2.2.2.2.1
  · unfold RIm; rw [e119]; exact h.2.2.2.2.2.2.2.2
theorem RI_st {A : pM} (h : RI A) (x : Int) : RI (wr A 88 0 x) := RI_n h (fun a a1 a2 => wr_a _ _ _ (by omega)) (wr_a _ _ _ (by omega)) (wr_a _ _ _ (by omega)) (fun a a1 a2 => wr_a _ _ _ (by omega)) (by rw [wr_k _ _ _ _ (by omega)]; exact h.2.2.1) (fun k hk => wr_k _ _ _ _ (by omega))
theorem RI_t0 {A : pM} (h : RI A) : RI (wr A 88 19 0) := RI_n h (fun a a1 a2 => wr_a _ _ _ (by omega)) (wr_a _ _ _ (by omega)) (wr_a _ _ _ (by omega)) (fun a a1 a2 => wr_a _ _ _ (by omega)) (by rw [wr_s]; omega) (fun k hk => wr_k _ _ _ _ (by omega))
theorem RI_z {A : pM} (h : RI A) (x : Int) : RI (wr A 88 23 x) := RI_n h (fun a a1 a2 => wr_a _ _ _ (by omega)) (wr_a _ _ _ (by omega)) (wr_a _ _ _ (by omega)) (fun a a1 a2 => wr_a _ _ _ (by omega)) (by rw [wr_k _ _ _ _ (by omega)]; exact h.2.2.1) (fun k hk => wr_k _ _ _ _ (by omega))
theorem RI_ev {A : pM} (h : RI A) (l : pEv) (hl : A 88 19 + l.length ≤ 700000) : RI (rEv A l) := by
  have s := nSame.e A l
  have t := rEv_tr A l h.2.2.1.1
  exact RI_n h (fun a a1 a2 => s.1 a (by omega) (by omega)) (s.1 _ (by omega) (by omega)) (s.1 _ (by omega) (by omega)) (fun a a1 a2 => s.1 a (by omega) (by omega)) ⟨t.1, by omega⟩ (fun k hk => s.2 k (by omega) (by omega) (by omega) (by omega))
theorem RI_not {A : pM} (h : RI A) (f : Int) : RI (rNotes A f) := by
  have s := nSame.n A f
  refine RI_n h (fun a a1 a2 => s.1 a (by omega) (by omega)) (s.1 _ (by omega) (by omega)) (s.1 _ (by omega) (by omega)) (fun a a1 a2 => s.1 a (by omega) (by omega)) ?_ (fun k hk => s.2 k (by omega) (by omega) (by omega) (by omega))
  have e : rNotes A f 88 19 = A 88 19 := by unfold rNotes; split <;> simp (disch := omega) only [wr_k]
  rw [e]; exact h.2.2.1
theorem RI_ref {A : pM} (h : RI A) (x : Int) : RI (rRef A x).2 := RI_st h x
theorem RI_say {A : pM} (h : RI A) (x : Int) : RI (rSay A x).2 := RI_st h 0
theorem RI_met {A : pM} (h : RI A) (f : Int) : RI (rMet A f).2 := RI_st (RI_not h f) _
/-- one chest changed in the reference -/
theorem IOk_one {A A2 : pM} {k : Int} (hI : IOk A) (hk : cIn A2 k) (hch : ∀ c, 0 ≤ c → c ≤ 2 → c ≠ k → chX A A2 c) : IOk A2 := fun c c1 c2 => by
  by_cases q : c = k
  · rw [q]; exact hk
  · exact cIn_x (hch c c1 c2 q) (hI c c1 c2)
theorem KOk_one {A A2 : pM} {k : Int} (hK : KOk A) (hk : 0 ≤ A2 101 k ∧ A2 101 k ≤ 30 ∧ ∀ j, 0 ≤ j → j < A2 101 k → 0 ≤ A2 102 (30 * k + j) ∧ A2 102 (30 * k + j) ≤ 1023) (hch : ∀ c, 0 ≤ c → c ≤ 2 → c ≠ k → chX A A2 c) : KOk A2 := fun c c1 c2 => by
  by_cases q : c = k
  · rw [q]; exact hk
  · have e := hch c c1 c2 q
    have g := hK c c1 c2
    rw [e.2.2.2.2.2.2.2.1]
    exact ⟨g.1, g.2.1, fun j j1 j2 => by rw [e.2.2.2.2.2.2.2.2 j j1 (by omega)]; exact g.2.2 j j1 j2⟩
/-- only places of one chest changed -/
theorem cIn_v {A A2 : pM} {c : Int} (h : cIn A c) (e : ∀ a, 89 ≤ a → a ≤ 100 → a ≠ 92 → A2 a = A a) (hv : pOkv A c (aAt A2 c)) : cIn A2 c := by
  obtain ⟨i1, i2, i3, i4, i5, i6⟩ := h
  refine ⟨by rw [e 89 (by omega) (by omega) (by omega)]; exact i1, fun s s1 s2 => ?_, by rw [e 94 (by omega) (by omega) (by omega), e 95 (by omega) (by omega) (by omega), e 96 (by omega) (by omega) (by omega), e 97 (by omega) (by omega) (by omega), e 98 (by omega) (by omega) (by omega)]; exact i3, by rw [e 99 (by omega) (by omega) (by omega)]; exact i4, by rw [e 100 (by omega) (by omega) (by omega)]; exact i5, ?_⟩
  · rw [e 90 (by omega) (by omega) (by omega), e 91 (by omega) (by omega) (by omega), e 93 (by omega) (by omega) (by omega), e 89 (by omega) (by omega) (by omega)]
    rcases i2 s s1 s2 with q | q
    · exact Or.inl q
    · refine Or.inr ⟨q.1, q.2.1, q.2.2.1, hv s s1 s2 ?_, q.2.2.2.2⟩
      show A 90 (16 * c + s) ≠ -1
      omega
  · rw [pW_s (fun a a1 a2 a3 => e a a1 (by omega) a3)]; exact i6
theorem chX_v {A A2 : pM} {k : Int} (e : ∀ a, 89 ≤ a → a ≤ 102 → a ≠ 92 → A2 a = A a) (e92 : ∀ j, (j < 16 * k ∨ 16 * k + 16 ≤ j) → A2 92 j = A 92 j) (c : Int) (hc : c ≠ k) : chX A A2 c := by
  refine ⟨fun r _ _ => by rw [e 89 (by omega) (by omega) (by omega)], fun a a1 a2 s s1 s2 => ?_, by rw [e 94 (by omega) (by omega) (by omega)], fun a a1 a2 s _ _ => by rw [e a (by omega) (by omega) (by omega)], fun j _ _ => by rw [e 98 (by omega) (by omega) (by omega)], by rw [e 99 (by omega) (by omega) (by omega)], by rw [e 100 (by omega) (by omega) (by omega)], by rw [e 101 (by omega) (by omega) (by omega)], fun i _ _ => by rw [e 102 (by omega) (by omega) (by omega)]⟩
  by_cases q : a = 92
  · subst q; exact e92 _ (by omega)
  · rw [e a (by omega) (by omega) q]
/-- a chest whose places alone changed on both sides -/
theorem RCx_v {A A2 m m1 : pM} {c : Int} {b : Nat} {v : Int → Int} (h : RCx A c m b) (hI : cIn A c) (hk : A 101 c ≤ 30) (e : ∀ a, 89 ≤ a → a ≤ 102 → a ≠ 92 → A2 a = A a) (em : ∀ a, b ≤ a → a ≤ b + 17 → a ≠ b + 4 → a ≠ b + 7 → m1 a = m a) (hv : CV A c m1 b v) (h92 : ∀ s, 0 ≤ s → s ≤ 15 → A 90 (16 * c + s) ≠ -1 → A2 92 (16 * c + s) = v s) : RCx A2 c m1 b := by
  obtain ⟨h1, h2, h3, h4⟩ := h
  refine ⟨CS_t hI (h1.m (fun a a1 a2 a3 a4 => em a a1 (by omega) a3 a4)) (chEq.of (fun a a1 a2 a3 => e a a1 (by omega) a3)), CV_t hv (fun s s1 s2 => ⟨by rw [e 90 (by omega) (by omega) (by omega)], fun q => h92 s s1 s2 q⟩), by rw [em b (by omega) (by omega) (by omega) (by omega), e 99 (by omega) (by omega) (by omega), e 100 (by omega) (by omega) (by omega)]; exact h3, ?_⟩
  unfold KR
  rw [em (b + 16) (by omega) (by omega) (by omega) (by omega), em (b + 17) (by omega) (by omega) (by omega) (by omega), e 101 (by omega) (by omega) (by omega), e 102 (by omega) (by omega) (by omega)]
  exact h4
