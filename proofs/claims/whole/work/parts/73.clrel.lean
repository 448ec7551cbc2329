/-! ===== the class stands for the reference ===== -/
def KR (A : pM) (c : Int) (m : pM) (b : Nat) : Prop := m (b + 16) 2 = A 101 c ∧ (0 ≤ m (b + 16) 1 ∧ m (b + 16) 1 < 30) ∧ ∀ i, 0 ≤ i → i < A 101 c → m (b + 17) ((m (b + 16) 1 + 30 - A 101 c + i) % 30) = A 102 (30 * c + i)
theorem KR_push {A : pM} {c : Int} {m : pM} {b : Nat} (h : KR A c m b) (hk : 0 ≤ A 101 c ∧ A 101 c ≤ 30) (x : Int) : KR (rKeep A c x) c (kpP m b x) b := by
  obtain ⟨h1, h2, h3⟩ := h
  have e1 : kpP m b x (b + 16) 1 = kpNext (m (b + 16) 1) := by unfold kpP; rw [wr_k _ _ _ _ (by omega), wr_s]
  have e2 : kpP m b x (b + 16) 2 = kpHeld (m (b + 16) 2) := by unfold kpP; rw [wr_s]
  have e3 : ∀ j, kpP m b x (b + 17) j = if j = m (b + 16) 1 then x else m (b + 17) j := fun j => by
    unfold kpP; rw [wr_a _ _ _ (by omega), wr_a _ _ _ (by omega)]; unfold wr; by_cases q : j = m (b + 16) 1 <;> simp [q]
  have en : kpNext (m (b + 16) 1) = (m (b + 16) 1 + 1) % 30 := by unfold kpNext; split <;> omega
  by_cases q : A 101 c = 30
  · have r1 : rKeep A c x 101 c = 30 := by unfold rKeep; rw [if_pos q, wr_s]; omega
    have r2 : ∀ i, 0 ≤ i → i < 30 → rKeep A c x 102 (30 * c + i) = if i = 29 then x else A 102 (30 * c + i + 1) := fun i i1 i2 => by
      unfold rKeep; rw [if_pos q, wr_a _ _ _ (by omega)]
      by_cases w : i = 29
      · rw [if_pos w, show 30 * c + i = 30 * c + (A 101 c - 1) by omega, wr_s]
      · rw [if_neg w, wr_k _ _ _ _ (by omega), wr_a _ _ _ (by omega)]
        unfold cpM; rw [if_pos (by omega)]; congr 1; omega
    refine ⟨by rw [e2, r1, h1, q]; decide, by rw [e1, en]; omega, fun i i1 i2 => ?_⟩
    rw [r1] at i2
    rw [r1, e1, en, r2 i i1 i2, e3]
    by_cases w : i = 29
    · rw [if_pos w, if_pos (by omega)]
    · rw [if_neg w, if_neg (by omega)]
      have a := h3 (i + 1) (by omega) (by omega)
      rw [q] at a
      rw [show 30 * c + i + 1 = 30 * c + (i + 1) by omega, ← a]
      congr 1; omega
  · have r1 : rKeep A c x 101 c = A 101 c + 1 := by unfold rKeep; rw [if_neg q, wr_s]
    have r2 : ∀ i, 0 ≤ i → i < A 101 c + 1 → rKeep A c x 102 (30 * c + i) = if i = A 101 c then x else A 102 (30 * c + i) := fun i i1 i2 => by
      unfold rKeep; rw [if_neg q, wr_a _ _ _ (by omega)]
      by_cases w : i = A 101 c
      · rw [if_pos w, w, wr_s]
      · rw [if_neg w, wr_k _ _ _ _ (by omega)]
    refine ⟨by rw [e2, r1, h1]; unfold kpHeld; rw [if_neg (by omega)], by rw [e1, en]; omega, fun i i1 i2 => ?_⟩
    rw [r1] at i2
    rw [r1, e1, en, r2 i i1 i2, e3]
    by_cases w : i = A 101 c
    · rw [if_pos w, if_pos (by omega)]
    · rw [if_neg w, if_neg (by omega), ← h3 i i1 (by omega)]
      congr 1; omega
def RCx (A : pM) (c : Int) (m : pM) (b : Nat) : Prop := CS A c m b ∧ CV A c m b (aAt A c) ∧ (m b 13 = A 99 c ∧ m b 14 = A 100 c) ∧ KR A c m b
theorem RCx.m {A : pM} {c : Int} {m m1 : pM} {b : Nat} (h : RCx A c m b) (e : ∀ a, b ≤ a → a ≤ b + 17 → a ≠ b + 7 → m1 a = m a) : RCx A c m1 b := by
  obtain ⟨h1, h2, h3, h4⟩ := h
  refine ⟨h1.m (fun a q1 q2 _ q4 => e a q1 (by omega) q4), h2.m (e _ (by omega) (by omega) (by omega)), by rw [e b (by omega) (by omega) (by omega)]; exact h3, ?_⟩
  unfold KR
  rw [e (b + 16) (by omega) (by omega) (by omega), e (b + 17) (by omega) (by omega) (by omega)]; exact h4
theorem RCx.A {A A2 : pM} {c : Int} {m : pM} {b : Nat} (h : RCx A c m b) (hI : cIn A c) (e : chEq A c A2 c) (e92 : ∀ s, 0 ≤ s → s ≤ 15 → A2 92 (16 * c + s) = A 92 (16 * c + s)) (e99 : A2 99 c = A 99 c) (e100 : A2 100 c = A 100 c) (e101 : A2 101 c = A 101 c) (e102 : ∀ i, 0 ≤ i → i < 30 → A2 102 (30 * c + i) = A 102 (30 * c + i)) (hk : A 101 c ≤ 30) : RCx A2 c m b := by
  obtain ⟨h1, h2, h3, h4⟩ := h
  refine ⟨CS_t hI h1 e, CV_t h2 (fun s s1 s2 => ⟨(e.2.1 s s1 s2).1, fun _ => e92 s s1 s2⟩), by rw [e99, e100]; exact h3, ?_⟩
  unfold KR
  rw [e101]
  exact ⟨h4.1, h4.2.1, fun i i1 i2 => by rw [e102 i i1 (by omega)]; exact h4.2.2 i i1 i2⟩
def RChs (A m : pM) : Prop := ∀ (c : Int) (b : Nat), 0 ≤ c → c ≤ 2 → (b : Int) = 5 + 18 * c → RCx A c m b
def RBn (m : pM) : Prop := ∃ (A9 : pM) (c9 : Int) (v9 : Int → Int), cIn A9 c9 ∧ CS A9 c9 m 59 ∧ CV A9 c9 m 59 v9
def RTy (A m : pM) : Prop := m 1 11 = A 88 24 ∧ ∀ i, 0 ≤ i → i < A 88 24 → m 86 i = A 106 i
def RAt (A m : pM) : Prop := m 1 13 = A 88 28 ∧ m 1 14 = A 88 29 ∧ m 1 15 = A 88 30 ∧ m 1 16 = A 88 0
def RMk (A m : pM) : Prop := MR A m ∧ m 78 1 = A 88 50 ∧ m 78 2 = A 88 51 ∧ m 78 3 = A 88 52
def REx (A m : pM) : Prop := ∃ l : List Int, WS m 80 l ∧ LW A 122 l ∧ A 88 56 = (l.length : Int) ∧ l.length ≤ 432
def RSo (A m : pM) : Prop := A 88 31 ≠ 0 → (m 123 11 ≠ 0 ↔ A 88 32 ≠ 0) ∧ m 123 9 = A 88 33 ∧ SRG A m ∧ (A 88 32 = 0 → ∀ b : Nat, (b : Int) = 5 + 18 * A 88 33 → m 123 8 = (b : Int))
def RSe (A m : pM) (n : Nat) : Prop := (m 1 10 = 0 ∧ n = 122 ∧ A 88 31 = 0) ∨ (m 1 10 = 123 ∧ n = 133 ∧ (m 123 10 ≠ 0 ↔ A 88 31 ≠ 0) ∧ RSo A m)
def RG (A m : pM) (n : Nat) : Prop := NR A m ∧ RChs A m ∧ RBn m ∧ RTy A m ∧ RAt A m ∧ RMk A m ∧ REx A m ∧ RSe A m n
/-- agreement on what matters -/
def AE (A A2 : pM) : Prop := (∀ a, 89 ≤ a → a ≤ 103 → A2 a = A a) ∧ A2 106 = A 106 ∧ (∀ a, 108 ≤ a → a ≤ 114 → A2 a = A a) ∧ A2 119 = A 119 ∧ A2 122 = A 122 ∧ ∀ k, k ≠ 21 → k ≠ 23 → k ≠ 27 → k ≠ 44 → A2 88 k = A 88 k
def KOk (A : pM) : Prop := ∀ c, 0 ≤ c → c ≤ 2 → 0 ≤ A 101 c ∧ A 101 c ≤ 30 ∧ ∀ j, 0 ≤ j → j < A 101 c → 0 ≤ A 102 (30 * c + j) ∧ A 102 (30 * c + j) ≤ 1023
def IOk (A : pM) : Prop := ∀ c, 0 ≤ c → c ≤ 2 → cIn A c
theorem SRG_c {S S2 m m1 : pM} (h : SRG S m) (hS : ∀ a, 108 ≤ a → a ≤ 114 → S2 a = S a) (h34 : S2 88 34 = S 88 34) (h35 : S2 88 35 = S 88 35) (h36 : S2 88 36 = S 88 36) (hm : ∀ a, 124 ≤ a → a ≤ 133 → a ≠ 130 → m1 a = m a) (hk : ∀ k, 12 ≤ k → k ≤ 15 → m1 123 k = m 123 k) : SRG S2 m1 := by
  have hr : rdR S2 = rdR S := by unfold rdR; rw [hS 114 (by omega) (by omega)]
  have hx : Ex S2 = Ex S := by unfold Ex; rw [hS 114 (by omega) (by omega)]
  unfold SRG SRm RDx rF rN FA
  rw [hr, hx, h34, h35, h36, hS 108 (by omega) (by omega), hS 109 (by omega) (by omega), hS 110 (by omega) (by omega), hS 111 (by omega) (by omega), hS 112 (by omega) (by omega), hS 113 (by omega) (by omega), hk 12 (by omega) (by omega), hk 13 (by omega) (by omega), hk 14 (by omega) (by omega), hk 15 (by omega) (by omega), hm 124 (by omega) (by omega) (by omega), hm 125 (by omega) (by omega) (by omega), hm 126 (by omega) (by omega) (by omega), hm 127 (by omega) (by omega) (by omega), hm 128 (by omega) (by omega) (by omega), hm 129 (by omega) (by omega) (by omega), hm 131 (by omega) (by omega) (by omega), hm 132 (by omega) (by omega) (by omega), hm 133 (by omega) (by omega) (by omega)]
  exact h
theorem RSe_c {A A2 m m1 : pM} {n : Nat} (h : RSe A m n) (hS : ∀ a, 108 ≤ a → a ≤ 114 → A2 a = A a) (hK : ∀ k, 31 ≤ k → k ≤ 36 → A2 88 k = A 88 k) (hm : ∀ a, 123 ≤ a → a ≤ 133 → a ≠ 130 → m1 a = m a) (h10 : m1 1 10 = m 1 10) : RSe A2 m1 n := by
  unfold RSe RSo at h ⊢
  rw [h10, hK 31 (by omega) (by omega), hK 32 (by omega) (by omega), hK 33 (by omega) (by omega), hm 123 (by omega) (by omega) (by omega)]
  rcases h with h | h
  · exact Or.inl h
  · refine Or.inr ⟨h.1, h.2.1, h.2.2.1, fun z => ?_⟩
    have q := h.2.2.2 z
    exact ⟨q.1, q.2.1, SRG_c q.2.2.1 hS (hK 34 (by omega) (by omega)) (hK 35 (by omega) (by omega)) (hK 36 (by omega) (by omega)) (fun a a1 a2 a3 => hm a (by omega) a2 a3) (fun k _ _ => by rw [hm 123 (by omega) (by omega) (by omega)]), q.2.2.2⟩
theorem RG_A {A A2 m : pM} {n : Nat} (h : RG A m n) (e : AE A A2) (hI : IOk A) (hK : KOk A) : RG A2 m n := by
  obtain ⟨h1, h2, h3, h4, h5, h6, h7, h8⟩ := h
  obtain ⟨e1, e2, e3, e4, e5, e6⟩ := e
  refine ⟨?_, fun c b c1 c2 hb => ?_, h3, ?_, ?_, ?_, ?_, ?_⟩
  · unfold NR; rw [e6 19 (by omega) (by omega) (by omega) (by omega), e6 1 (by omega) (by omega) (by omega) (by omega), e6 2 (by omega) (by omega) (by omega) (by omega), e1 103 (by omega) (by omega)]; exact h1
  · refine (h2 c b c1 c2 hb).A (hI c c1 c2) (chEq.of (fun a a1 a2 _ => e1 a a1 (by omega))) (fun s _ _ => by rw [e1 92 (by omega) (by omega)]) (by rw [e1 99 (by omega) (by omega)]) (by rw [e1 100 (by omega) (by omega)]) (by rw [e1 101 (by omega) (by omega)]) (fun i _ _ => by rw [e1 102 (by omega) (by omega)]) (hK c c1 c2).2.1
  · unfold RTy; rw [e6 24 (by omega) (by omega) (by omega) (by omega), e2]; exact h4
  · unfold RAt; rw [e6 28 (by omega) (by omega) (by omega) (by omega), e6 29 (by omega) (by omega) (by omega) (by omega), e6 30 (by omega) (by omega) (by omega) (by omega), e6 0 (by omega) (by omega) (by omega) (by omega)]; exact h5
  · unfold RMk MR; rw [e6 50 (by omega) (by omega) (by omega) (by omega), e6 51 (by omega) (by omega) (by omega) (by omega), e6 52 (by omega) (by omega) (by omega) (by omega), e4]; exact h6
  · unfold REx LW; rw [e6 56 (by omega) (by omega) (by omega) (by omega), e5]; exact h7
  · exact RSe_c h8 e3 (fun k k1 k2 => e6 k (by omega) (by omega) (by omega) (by omega)) (fun _ _ _ _ => rfl) rfl
theorem RG_m {A m m1 : pM} {n : Nat} (h : RG A m n) (e : ∀ a, (a < 88 ∨ 122 < a) → m1 a = m a) : RG A m1 n := by
  obtain ⟨h1, h2, h3, h4, h5, h6, h7, h8⟩ := h
  refine ⟨?_, fun c b c1 c2 hb => (h2 c b c1 c2 hb).m (fun a a1 a2 _ => e a (by omega)), ?_, ?_, ?_, ?_, ?_, ?_⟩
  · unfold NR; rw [e 2 (by omega), e 3 (by omega)]; exact h1
  · obtain ⟨A9, c9, v9, q1, q2, q3⟩ := h3
    exact ⟨A9, c9, v9, q1, q2.m (fun a a1 a2 _ _ => e a (by omega)), q3.m (e _ (by omega))⟩
  · unfold RTy; rw [e 1 (by omega), e 86 (by omega)]; exact h4
  · unfold RAt; rw [e 1 (by omega)]; exact h5
  · unfold RMk MR; rw [e 78 (by omega), e 79 (by omega)]; exact h6
  · unfold REx WS LW; rw [e 80 (by omega), e 81 (by omega)]; exact h7
  · exact RSe_c h8 (fun _ _ _ => rfl) (fun _ _ _ => rfl) (fun a a1 a2 _ => e a (by omega)) (by rw [e 1 (by omega)])
/-! closings -/
theorem RG_st {A m : pM} {n : Nat} (h : RG A m n) (hI : IOk A) (hK : KOk A) (x : Int) : RG (wr A 88 0 x) (wr m 1 16 x) n := by
  obtain ⟨h1, h2, h3, h4, h5, h6, h7, h8⟩ := h
  have em : ∀ a, a ≠ 1 → wr m 1 16 x a = m a := fun a q => wr_a _ _ _ q
  have eA : ∀ a, a ≠ 88 → wr A 88 0 x a = A a := fun a q => wr_a _ _ _ q
  have kA : ∀ k, k ≠ 0 → wr A 88 0 x 88 k = A 88 k := fun k q => wr_k _ _ _ _ q
  have km : ∀ k, k ≠ 16 → wr m 1 16 x 1 k = m 1 k := fun k q => wr_k _ _ _ _ q
  refine ⟨?_, fun c b c1 c2 hb => ?_, ?_, ?_, ?_, ?_, ?_, ?_⟩
  · unfold NR; rw [em 2 (by omega), em 3 (by omega), kA 19 (by omega), kA 1 (by omega), kA 2 (by omega), eA 103 (by omega)]; exact h1
  · exact ((h2 c b c1 c2 hb).m (fun a a1 a2 _ => em a (by omega))).A (hI c c1 c2) (chEq.of (fun a a1 a2 _ => eA a (by omega))) (fun s _ _ => by rw [eA 92 (by omega)]) (by rw [eA 99 (by omega)]) (by rw [eA 100 (by omega)]) (by rw [eA 101 (by omega)]) (fun i _ _ => by rw [eA 102 (by omega)]) (hK c c1 c2).2.1
  · obtain ⟨A9, c9, v9, q1, q2, q3⟩ := h3
    exact ⟨A9, c9, v9, q1, q2.m (fun a a1 a2 _ _ => em a (by omega)), q3.m (em _ (by omega))⟩
  · unfold RTy; rw [km 11 (by omega), em 86 (by omega), kA 24 (by omega), eA 106 (by omega)]; exact h4
  · unfold RAt; rw [km 13 (by omega), km 14 (by omega), km 15 (by omega), kA 28 (by omega), kA 29 (by omega), kA 30 (by omega), wr_s, wr_s]; exact ⟨h5.1, h5.2.1, h5.2.2.1, rfl⟩
  · unfold RMk MR; rw [em 78 (by omega), em 79 (by omega), kA 50 (by omega), kA 51 (by omega), kA 52 (by omega), eA 119 (by omega)]; exact h6
  · unfold REx WS LW; rw [em 80 (by omega), em 81 (by omega), kA 56 (by omega), eA 122 (by omega)]; exact h7
  · exact RSe_c h8 (fun a a1 a2 => eA a (by omega)) (fun k k1 k2 => kA k (by omega)) (fun a a1 a2 _ => em a (by omega)) (km 10 (by omega))
/-- notes changed on both sides, nothing else -/
theorem RG_n {A A2 m m1 : pM} {n : Nat} (h : RG A m n) (hI : IOk A) (hK : KOk A) (hN : NR A2 m1) (eA : ∀ a, a ≠ 88 → a ≠ 103 → A2 a = A a) (kA : ∀ k, k ≠ 1 → k ≠ 2 → k ≠ 19 → k ≠ 23 → A2 88 k = A 88 k) (em : ∀ a, a ≠ 2 → a ≠ 3 → m1 a = m a) : RG A2 m1 n := by
  obtain ⟨h1, h2, h3, h4, h5, h6, h7, h8⟩ := h
  refine ⟨hN, fun c b c1 c2 hb => ?_, ?_, ?_, ?_, ?_, ?_, ?_⟩
  · exact ((h2 c b c1 c2 hb).m (fun a a1 a2 _ => em a (by omega) (by omega))).A (hI c c1 c2) (chEq.of (fun a a1 a2 _ => eA a (by omega) (by omega))) (fun s _ _ => by rw [eA 92 (by omega) (by omega)]) (by rw [eA 99 (by omega) (by omega)]) (by rw [eA 100 (by omega) (by omega)]) (by rw [eA 101 (by omega) (by omega)]) (fun i _ _ => by rw [eA 102 (by omega) (by omega)]) (hK c c1 c2).2.1
  · obtain ⟨A9, c9, v9, q1, q2, q3⟩ := h3
    exact ⟨A9, c9, v9, q1, q2.m (fun a a1 a2 _ _ => em a (by omega) (by omega)), q3.m (em _ (by omega) (by omega))⟩
  · unfold RTy; rw [em 1 (by omega) (by omega), em 86 (by omega) (by omega), kA 24 (by omega) (by omega) (by omega) (by omega), eA 106 (by omega) (by omega)]; exact h4
  · unfold RAt; rw [em 1 (by omega) (by omega), kA 28 (by omega) (by omega) (by omega) (by omega), kA 29 (by omega) (by omega) (by omega) (by omega), kA 30 (by omega) (by omega) (by omega) (by omega), kA 0 (by omega) (by omega) (by omega) (by omega)]; exact h5
  · unfold RMk MR; rw [em 78 (by omega) (by omega), em 79 (by omega) (by omega), kA 50 (by omega) (by omega) (by omega) (by omega), kA 51 (by omega) (by omega) (by omega) (by omega), kA 52 (by omega) (by omega) (by omega) (by omega), eA 119 (by omega) (by omega)]; exact h6
  · unfold REx WS LW; rw [em 80 (by omega) (by omega), em 81 (by omega) (by omega), kA 56 (by omega) (by omega) (by omega) (by omega), eA 122 (by omega) (by omega)]; exact h7
  · exact RSe_c h8 (fun a a1 a2 => eA a (by omega) (by omega)) (fun k k1 k2 => kA k (by omega) (by omega) (by omega) (by omega)) (fun a a1 a2 _ => em a (by omega) (by omega)) (by rw [em 1 (by omega) (by omega)])
theorem RG_ev {A m : pM} {n : Nat} (h : RG A m n) (hI : IOk A) (hK : KOk A) (h0 : 0 ≤ A 88 19) (hq : A 88 3 = 0) (l : pEv) : RG (rEv A l) (nEv m l) n :=
  RG_n h hI hK (NR_ev h.1 h0 hq l) (fun a q1 q2 => (nSame.e A l).1 a q1 q2) (fun k q1 q2 q3 q4 => (nSame.e A l).2 k q1 q2 q3 q4) (fun a q1 q2 => nEv_a _ _ _ q1 q2)
theorem RG_t0 {A m : pM} {n : Nat} (h : RG A m n) (hI : IOk A) (hK : KOk A) : RG (wr A 88 19 0) (wr m 2 1 0) n := by
  refine RG_n h hI hK ?_ (fun a q1 q2 => wr_a _ _ _ q1) (fun k q1 q2 q3 q4 => wr_k _ _ _ _ q3) (fun a q1 q2 => wr_a _ _ _ q1)
  refine ⟨by rw [wr_s, wr_s], by rw [wr_k _ _ _ _ (by omega), wr_k _ _ _ _ (by omega)]; exact h.1.2.1, by rw [wr_k _ _ _ _ (by omega), wr_k _ _ _ _ (by omega)]; exact h.1.2.2.1, fun i i1 i2 i3 => ?_⟩
  rw [wr_s] at i3; omega
