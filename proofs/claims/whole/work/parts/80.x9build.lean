/-! ===== what is built ===== -/
def BdX (A A2 : pM) (k : Int) : Prop := cIn A2 k ∧ (∀ c, 0 ≤ c → c ≤ 2 → c ≠ k → chX A A2 c) ∧ (A2 101 = A 101 ∧ A2 102 = A 102) ∧ (∀ a, 103 ≤ a → a ≤ 122 → a ≠ 104 → a ≠ 105 → a ≠ 107 → A2 a = A a) ∧ ∀ j, j ≠ 21 → A2 88 j = A 88 j
theorem chX_of {A A2 : pM} {k : Int} (h89 : ∀ j, (j < 4 * k ∨ 4 * k + 4 ≤ j) → A2 89 j = A 89 j) (h90 : ∀ a, 90 ≤ a → a ≤ 93 → ∀ j, (j < 16 * k ∨ 16 * k + 16 ≤ j) → A2 a j = A a j) (h94 : ∀ a, a = 94 ∨ a = 99 ∨ a = 100 → ∀ j, j ≠ k → A2 a j = A a j) (h95 : ∀ a, 95 ≤ a → a ≤ 97 → ∀ j, (j < 40 * k ∨ 40 * k + 40 ≤ j) → A2 a j = A a j) (h98 : ∀ j, (j < 240 * k ∨ 240 * k + 240 ≤ j) → A2 98 j = A 98 j) (e1 : A2 101 = A 101) (e2 : A2 102 = A 102) (c : Int) (q : c ≠ k) : chX A A2 c :=
  ⟨fun r _ _ => h89 _ (by omega), fun a a1 a2 s _ _ => h90 a a1 a2 _ (by omega), h94 94 (by omega) c q, fun a a1 a2 s _ _ => h95 a a1 a2 _ (by omega), fun j _ _ => h98 _ (by omega), h94 99 (by omega) c q, h94 100 (by omega) c q, by rw [e1], fun i _ _ => by rw [e2]⟩
theorem RI_bd {A A2 : pM} {k : Int} (h : RI A) (hk : 0 ≤ k ∧ k ≤ 2) (hB : BdX A A2 k) : RI (rChg A2 k) := by
  obtain ⟨b1, b2, ⟨b3, b4⟩, b5, b6⟩ := hB
  have eA : ∀ a, a ≠ 88 → a ≠ 101 → rChg A2 k a = A2 a := fun a q1 q2 => by unfold rChg; rw [wr_a _ _ _ q1, wr_a _ _ _ q2]
  have kA : ∀ j, j ≠ 32 → rChg A2 k 88 j = A2 88 j := fun j q => by unfold rChg; rw [wr_k _ _ _ _ q, wr_a _ _ _ (by omega)]
  have k32 : rChg A2 k 88 32 = (if A2 88 32 ≠ 0 ∨ (A2 88 31 ≠ 0 ∧ A2 88 33 = k) then 1 else 0) := by unfold rChg; rw [wr_s]
  have e101 : ∀ c, rChg A2 k 101 c = if c = k then 0 else A2 101 c := fun c => by
    unfold rChg; rw [wr_a _ _ _ (by omega)]; unfold wr; by_cases q : c = k <;> simp [q]
  have ch : ∀ c, 0 ≤ c → c ≤ 2 → c ≠ k → chX A (rChg A2 k) c := fun c c1 c2 q => (b2 c c1 c2 q).tr ⟨fun r _ _ => by rw [eA 89 (by omega) (by omega)], fun a a1 a2 s _ _ => by rw [eA a (by omega) (by omega)], by rw [eA 94 (by omega) (by omega)], fun a a1 a2 s _ _ => by rw [eA a (by omega) (by omega)], fun j _ _ => by rw [eA 98 (by omega) (by omega)], by rw [eA 99 (by omega) (by omega)], by rw [eA 100 (by omega) (by omega)], by rw [e101, if_neg q], fun i _ _ => by rw [eA 102 (by omega) (by omega)]⟩
  have hkk : 0 ≤ rChg A2 k 101 k ∧ rChg A2 k 101 k ≤ 30 ∧ ∀ j, 0 ≤ j → j < rChg A2 k 101 k → 0 ≤ rChg A2 k 102 (30 * k + j) ∧ rChg A2 k 102 (30 * k + j) ≤ 1023 := by
    have z : rChg A2 k 101 k = 0 := by rw [e101, if_pos rfl]
    rw [z]; exact ⟨by omega, by omega, fun j j1 j2 => absurd j2 (by omega)⟩
  refine RI_c h (IOk_one h.1 (cIn_c (fun a a1 a2 => eA a (by omega) (by omega)) b1) ch) (KOk_one h.2.1 hkk ch) (by rw [kA 19 (by omega), b6 19 (by omega)]; exact h.2.2.1) (by rw [kA 3 (by omega), b6 3 (by omega)]; exact h.2.2.2.1) ?_ ?_ (fun a a1 a2 => (eA a (by omega) (by omega)).trans (b5 a (by omega) (by omega) (by omega) (by omega) (by omega))) (fun j j1 j2 j3 => (kA j j3).trans (b6 j (by omega))) (fun z y => ?_)
  · unfold RIt; rw [kA 24 (by omega), b6 24 (by omega), eA 106 (by omega) (by omega), b5 106 (by omega) (by omega) (by omega) (by omega) (by omega)]; exact h.2.2.2.2.1
  · unfold RIm; rw [eA 119 (by omega) (by omega), b5 119 (by omega) (by omega) (by omega) (by omega) (by omega)]; exact h.2.2.2.2.2.2.2.2
  · have q := h.2.2.2.2.2.2.2.1 z
    rw [k32, b6 32 (by omega), b6 31 (by omega), b6 33 (by omega)] at y
    by_cases w : A 88 32 ≠ 0 ∨ (A 88 31 ≠ 0 ∧ A 88 33 = k)
    · rw [if_pos w] at y; omega
    · have w2 : A 88 33 ≠ k := fun t => w (Or.inr ⟨z, t⟩)
      exact ⟨by omega, (ch _ q.1.1 q.1.2 w2).q (h.1 _ q.1.1 q.1.2).2.2.1.1.2⟩
theorem RG_bd {A A2 m m1 : pM} {n : Nat} {k : Int} {kb : Nat} (h : RG A m n) (hR : RI A) (hk : 0 ≤ k ∧ k ≤ 2) (hkb : (kb : Int) = 5 + 18 * k) (hB : BdX A A2 k) (hS : CS A2 k m1 kb) (hV : CV A2 k m1 kb (aAt A2 k)) (hJ : m1 kb 13 = A2 99 k ∧ m1 kb 14 = A2 100 k) (em : ∀ a, (a < kb ∨ kb + 15 < a) → m1 a = m a) : RG (rChg A2 k) (bltM m1 kb k) n := by
  obtain ⟨b1, b2, ⟨b3, b4⟩, b5, b6⟩ := hB
  have hK2 : KOk A2 := KOk_c hR.2.1 b3 b4
  refine RG_built (RG_one h hR.1 hR.2.1 hk.1 hk.2 hkb ⟨hS, hV, hJ, ?_⟩ b2 b5 (fun j j1 _ _ _ => b6 j j1) (fun a _ ha => em a (by omega))) (IOk_one hR.1 b1 b2) hK2 hk.1 hk.2 hkb
  have q := (h.2.1 k kb hk.1 hk.2 hkb).2.2.2
  unfold KR at q ⊢
  rw [b3, b4, em (kb + 16) (by omega), em (kb + 17) (by omega)]; exact q
theorem RG_10 {A m : pM} {n : Nat} (h : RG A m n) : m 1 10 = 0 ∨ (m 1 10 = 123 ∧ n = 133) := by
  rcases h.2.2.2.2.2.2.2 with z | z
  · exact Or.inl z.1
  · exact Or.inr ⟨z.1, z.2.1⟩
theorem aParts_c {m m1 : pM} (h : m1 90 = m 90) (c : Int) (k : Nat) : aParts m1 c k = aParts m c k := by
  induction k with
  | zero => rfl
  | succ k ih => show aParts m1 c k + (if m1 90 (16 * c + k) = -1 then 0 else 1) = aParts m c k + (if m 90 (16 * c + k) = -1 then 0 else 1); rw [ih, h]
theorem aParts_chg (m : pM) (c c2 : Int) (k : Nat) : aParts (rChg m c) c2 k = aParts m c2 k := aParts_c (by unfold rChg; rw [wr_a _ _ _ (by omega), wr_a _ _ _ (by omega)]) c2 k
theorem Bd_lay {A : pM} {k r x : Int} (h : RI A) (hk : 0 ≤ k ∧ k ≤ 2) (hr : 0 ≤ r ∧ r ≤ 3) (hx : -1 ≤ x ∧ x ≤ 4) : BdX A (layA A k r x) k := by
  have v := layA_v A k r x
  have e : ∀ a, a ≠ 89 → a ≠ 90 → layA A k r x a = A a := v.2.2
  refine ⟨cIn_lay (h.1 k hk.1 hk.2) hr hx, fun c _ _ q => chX_of (fun j hj => by rw [v.1, if_neg (by omega)]) (fun a a1 a2 j hj => ?_) (fun a ha j _ => by rw [e a (by omega) (by omega)]) (fun a a1 a2 j _ => by rw [e a (by omega) (by omega)]) (fun j _ => by rw [e 98 (by omega) (by omega)]) (e _ (by omega) (by omega)) (e _ (by omega) (by omega)) c q, ⟨e _ (by omega) (by omega), e _ (by omega) (by omega)⟩, fun a a1 a2 _ _ _ => e a (by omega) (by omega), fun j _ => by rw [e 88 (by omega) (by omega)]⟩
  by_cases w : a = 90
  · subst w; rw [v.2.1, if_neg (by omega)]
  · rw [e a (by omega) w]
theorem Bd_put {A : pM} {k s kd p e : Int} (hs : 0 ≤ s ∧ s ≤ 15) (hI2 : cIn (rStand A (16 * k + s) kd p e) k) : BdX A (rStand A (16 * k + s) kd p e) k := by
  have v := rSt_v A (16 * k + s) kd p e
  have e0 : ∀ a, a ≠ 90 → a ≠ 91 → a ≠ 92 → a ≠ 93 → rStand A (16 * k + s) kd p e a = A a := fun a q1 q2 q3 q4 => by unfold rStand; rw [wr_a _ _ _ q4, wr_a _ _ _ q3, wr_a _ _ _ q2, wr_a _ _ _ q1]
  exact ⟨hI2, fun c _ _ q => chX_of (fun j hj => by rw [e0 89 (by omega) (by omega) (by omega) (by omega)]) (fun a a1 a2 j hj => by rw [v, if_neg (by omega)]) (fun a ha j _ => by rw [e0 a (by omega) (by omega) (by omega) (by omega)]) (fun a a1 a2 j _ => by rw [e0 a (by omega) (by omega) (by omega) (by omega)]) (fun j _ => by rw [e0 98 (by omega) (by omega) (by omega) (by omega)]) (e0 _ (by omega) (by omega) (by omega) (by omega)) (e0 _ (by omega) (by omega) (by omega) (by omega)) c q, ⟨e0 _ (by omega) (by omega) (by omega) (by omega), e0 _ (by omega) (by omega) (by omega) (by omega)⟩, fun a a1 a2 _ _ _ => e0 a (by omega) (by omega) (by omega) (by omega), fun j _ => by rw [e0 88 (by omega) (by omega) (by omega) (by omega)]⟩
theorem Bd_rem {A : pM} {k s : Int} (h : RI A) (hk : 0 ≤ k ∧ k ≤ 2) (hs : 0 ≤ s ∧ s ≤ 15) : BdX A (wr A 90 (16 * k + s) (-1)) k := by
  have e0 : ∀ a, a ≠ 90 → wr A 90 (16 * k + s) (-1) a = A a := fun a q1 => wr_a _ _ _ q1
  refine ⟨cIn_rem (h.1 k hk.1 hk.2), fun c _ _ q => chX_of (fun j hj => by rw [e0 89 (by omega)]) (fun a a1 a2 j hj => ?_) (fun a ha j _ => by rw [e0 a (by omega)]) (fun a a1 a2 j _ => by rw [e0 a (by omega)]) (fun j _ => by rw [e0 98 (by omega)]) (e0 _ (by omega)) (e0 _ (by omega)) c q, ⟨e0 _ (by omega), e0 _ (by omega)⟩, fun a a1 a2 _ _ _ => e0 a (by omega), fun j _ => by rw [e0 88 (by omega)]⟩
  exact wr_k _ _ _ _ (by omega)
theorem Bd_more {A : pM} {k a l x : Int} (h : RI A) (hk : 0 ≤ k ∧ k ≤ 2) (hI2 : cIn (rMore A k a l x) k) (h40 : A 94 k < 40) : BdX A (rMore A k a l x) k := by
  have h0 := (h.1 k hk.1 hk.2).2.2.1.1.1
  have e0 : ∀ q, q ≠ 94 → q ≠ 95 → q ≠ 96 → q ≠ 97 → q ≠ 98 → rMore A k a l x q = A q := fun q q1 q2 q3 q4 q5 => by unfold rMore; rw [wr_a _ _ _ q1, fiM_a _ _ _ _ q5, wr_a _ _ _ q4, wr_a _ _ _ q3, wr_a _ _ _ q2]
  refine ⟨hI2, fun c _ _ q => chX_of (fun j hj => by rw [e0 89 (by omega) (by omega) (by omega) (by omega) (by omega)]) (fun a a1 a2 j hj => by rw [e0 a (by omega) (by omega) (by omega) (by omega) (by omega)]) (fun q hq j hj => ?_) (fun q q1 q2 j hj => ?_) (fun j hj => ?_) (e0 _ (by omega) (by omega) (by omega) (by omega) (by omega)) (e0 _ (by omega) (by omega) (by omega) (by omega) (by omega)) c q, ⟨e0 _ (by omega) (by omega) (by omega) (by omega) (by omega), e0 _ (by omega) (by omega) (by omega) (by omega) (by omega)⟩, fun a a1 a2 _ _ _ => e0 a (by omega) (by omega) (by omega) (by omega) (by omega), fun j _ => by rw [e0 88 (by omega) (by omega) (by omega) (by omega) (by omega)]⟩
  · by_cases w : q = 94
    · subst w; unfold rMore; rw [wr_k _ _ _ _ hj, fiM_a _ _ _ _ (by omega), wr_a _ _ _ (by omega), wr_a _ _ _ (by omega), wr_a _ _ _ (by omega)]
    · rw [e0 q (by omega) (by omega) (by omega) (by omega) (by omega)]
  · unfold rMore; rw [wr_a _ _ _ (by omega), fiM_a _ _ _ _ (by omega), wr_k _ _ _ _ (by omega), wr_k _ _ _ _ (by omega), wr_k _ _ _ _ (by omega)]
  · unfold rMore; rw [wr_a _ _ _ (by omega)]
    unfold fiM; rw [if_neg (by omega), wr_a _ _ _ (by omega), wr_a _ _ _ (by omega), wr_a _ _ _ (by omega)]
theorem Bd_98 {A A2 : pM} {k : Int} (hI2 : cIn A2 k) (e : ∀ a, a ≠ 98 → a ≠ 104 → A2 a = A a) (e98 : ∀ j, (j < 240 * k ∨ 240 * k + 240 ≤ j) → A2 98 j = A 98 j) : BdX A A2 k :=
  ⟨hI2, fun c _ _ q => chX_of (fun j hj => by rw [e 89 (by omega) (by omega)]) (fun a a1 a2 j hj => by rw [e a (by omega) (by omega)]) (fun a ha j _ => by rw [e a (by omega) (by omega)]) (fun a a1 a2 j _ => by rw [e a (by omega) (by omega)]) e98 (e _ (by omega) (by omega)) (e _ (by omega) (by omega)) c q, ⟨e _ (by omega) (by omega), e _ (by omega) (by omega)⟩, fun a a1 a2 a3 _ _ => e a (by omega) a3, fun j _ => by rw [e 88 (by omega) (by omega)]⟩
/-! emptied -/
def emZ (m : pM) (c : Int) : pM := wr (wr (wr (fiM (fiM m 89 (4 * c) 4 (-1)) 90 (16 * c) 16 (-1)) 94 c 0) 99 c 0) 100 c (-1)
theorem chg_emp (m : pM) (c : Int) : rChg (rEmp m c) c = rChg (emZ m c) c := by
  have e : rEmp m c = wr (emZ m c) 101 c 0 := rfl
  have q : ∀ j, wr (emZ m c) 101 c 0 88 j = emZ m c 88 j := fun j => by rw [wr_a _ _ _ (by omega)]
  rw [e]; unfold rChg; rw [wr_wr, q, q, q]
theorem emZ_v (A : pM) (c : Int) : (∀ r, 0 ≤ r → r ≤ 3 → emZ A c 89 (4 * c + r) = -1) ∧ (∀ s, 0 ≤ s → s ≤ 15 → emZ A c 90 (16 * c + s) = -1) ∧ (emZ A c 94 c = 0 ∧ emZ A c 99 c = 0 ∧ emZ A c 100 c = -1) ∧ ∀ a, a ≠ 89 → a ≠ 90 → a ≠ 94 → a ≠ 99 → a ≠ 100 → emZ A c a = A a := by
  unfold emZ
  refine ⟨fun r r1 r2 => ?_, fun s s1 s2 => ?_, ⟨?_, ?_, ?_⟩, fun a a1 a2 a3 a4 a5 => ?_⟩
  · rw [wr_a _ _ _ (by omega), wr_a _ _ _ (by omega), wr_a _ _ _ (by omega), fiM_a _ _ _ _ (by omega)]; unfold fiM; rw [if_pos ⟨rfl, by omega, by omega⟩]
  · rw [wr_a _ _ _ (by omega), wr_a _ _ _ (by omega), wr_a _ _ _ (by omega)]; unfold fiM; rw [if_pos ⟨rfl, by omega, by omega⟩]
  · rw [wr_a _ _ _ (by omega), wr_a _ _ _ (by omega), wr_s]
  · rw [wr_a _ _ _ (by omega), wr_s]
  · rw [wr_s]
  · rw [wr_a _ _ _ a5, wr_a _ _ _ a4, wr_a _ _ _ a3, fiM_a _ _ _ _ a2, fiM_a _ _ _ _ a1]
theorem cIn_emZ {A : pM} {c : Int} (h : cIn A c) : cIn (emZ A c) c := by
  obtain ⟨v1, v2, ⟨v3, v4, v5⟩, v6⟩ := emZ_v A c
  refine ⟨fun r r1 r2 => by rw [v1 r r1 r2]; omega, fun s s1 s2 => Or.inl (v2 s s1 s2), ⟨by rw [v3]; omega, fun k k1 k2 => by rw [v3] at k2; omega⟩, by rw [v4]; omega, by rw [v5]; omega, ?_⟩
  have := (pW_le (A := A) (A2 := emZ A c) (c := c) (c2 := c) (fun s s1 s2 => by
    have e : eSp (emZ A c) c s = 1 := if_pos (v2 s s1 s2)
    have r := eSp_ran h.ok.1.2.2 s s1 s2
    omega) 16 (by omega)).2
  have := h.2.2.2.2.2
  omega
theorem Bd_emp {A : pM} {k : Int} (h : RI A) (hk : 0 ≤ k ∧ k ≤ 2) : BdX A (emZ A k) k := by
  have v6 := (emZ_v A k).2.2.2
  have z : ∀ a j, (a = 89 ∧ (j < 4 * k ∨ 4 * k + 4 ≤ j)) ∨ (a = 90 ∧ (j < 16 * k ∨ 16 * k + 16 ≤ j)) ∨ ((a = 94 ∨ a = 99 ∨ a = 100) ∧ j ≠ k) → emZ A k a j = A a j := fun a j hj => by
    unfold emZ wr fiM
    (repeat' split) <;> first | rfl | (exfalso; omega)
  refine ⟨cIn_emZ (h.1 k hk.1 hk.2), fun c _ _ q => chX_of (fun j hj => z _ _ (Or.inl ⟨rfl, hj⟩)) (fun a a1 a2 j hj => ?_) (fun a ha j hj => z _ _ (Or.inr (Or.inr ⟨ha, hj⟩))) (fun a a1 a2 j _ => by rw [v6 a (by omega) (by omega) (by omega) (by omega) (by omega)]) (fun j _ => by rw [v6 98 (by omega) (by omega) (by omega) (by omega) (by omega)]) (v6 _ (by omega) (by omega) (by omega) (by omega) (by omega)) (v6 _ (by omega) (by omega) (by omega) (by omega) (by omega)) c q, ⟨v6 _ (by omega) (by omega) (by omega) (by omega) (by omega), v6 _ (by omega) (by omega) (by omega) (by omega) (by omega)⟩, fun a a1 a2 _ _ _ => v6 a (by omega) (by omega) (by omega) (by omega) (by omega), fun j _ => by rw [v6 88 (by omega) (by omega) (by omega) (by omega) (by omega)]⟩
  by_cases w : a = 90
  · exact z _ _ (Or.inr (Or.inl ⟨w, hj⟩))
  · rw [v6 a (by omega) w (by omega) (by omega) (by omega)]
theorem emZ_q (A : pM) (c : Int) : chEq (emR A c 4) c (emZ A c) c := by
  have e := emR_v A c 4
  obtain ⟨v1, v2, ⟨v3, v4, v5⟩, v6⟩ := emZ_v A c
  have k90 : ∀ s : Int, 0 ≤ s → s ≤ 15 → emR A c 4 90 (16 * c + s) = -1 := fun s s1 s2 => e.2.1 s s1 (by omega)
  exact ⟨fun r r1 r2 => by rw [v1 r r1 r2, e.1 r r1 (by omega)], fun s s1 s2 => ⟨by rw [v2 s s1 s2, k90 s s1 s2], fun y => absurd (k90 s s1 s2) y⟩, by rw [v3, e.2.2], fun k k1 k2 => by rw [e.2.2] at k2; omega⟩
/-! copied -/
theorem cIn_t {A A2 : pM} {c c2 : Int} (h : cIn A c) (e : chEq A c A2 c2) (e92 : ∀ s, 0 ≤ s → s ≤ 15 → A 90 (16 * c + s) ≠ -1 → A2 92 (16 * c2 + s) = A 92 (16 * c + s)) (h99 : 0 ≤ A2 99 c2 ∧ A2 99 c2 ≤ 99) (h100 : -1 ≤ A2 100 c2 ∧ A2 100 c2 ≤ 15) : cIn A2 c2 := by
  obtain ⟨i1, i2, i3, i4, i5, i6⟩ := h
  refine ⟨fun r r1 r2 => by rw [e.1 r r1 r2]; exact i1 r r1 r2, fun s s1 s2 => ?_, ⟨by rw [e.2.2.1]; exact i3.1, fun k k1 k2 => ?_⟩, h99, h100, ?_⟩
  · have q := e.2.1 s s1 s2
    rcases i2 s s1 s2 with w | w
    · exact Or.inl (q.1.trans w)
    · have hn : A 90 (16 * c + s) ≠ -1 := by omega
      have p := q.2 hn
      rw [q.1, p.1, p.2, e92 s s1 s2 hn, e.1 (s / 4) (by omega) (by omega)]
      exact Or.inr w
  · rw [e.2.2.1] at k2
    have p := e.2.2.2 k k1 k2
    rw [p.1, p.2.1, p.2.2.1]
    have g := i3.2 k k1 k2
    exact ⟨g.1, g.2.1, g.2.2.1, fun i j1 j2 => by rw [p.2.2.2 i j1 j2]; exact g.2.2.2 i j1 j2⟩
  · have w : ∀ k : Nat, k ≤ 16 → pW A2 c2 k = pW A c k := fun k hk => by
      induction k with
      | zero => rfl
      | succ k ih => show pW A2 c2 k * eSp A2 c2 k = pW A c k * eSp A c k; rw [ih (by omega), e.e k (by omega) (by omega)]
    rw [w 16 (by omega)]; exact i6
theorem blkF_v (m : pM) (src : Nat → Int → Int) (c : Int) : (∀ a, a < 89 ∨ 98 < a → blkF m src c a = m a) ∧ (∀ j, blkF m src c 89 j = if 4 * c ≤ j ∧ j < 4 * c + 4 then src 89 (j - 4 * c) else m 89 j) ∧ (∀ a, 90 ≤ a → a ≤ 93 → ∀ j, blkF m src c a j = if 16 * c ≤ j ∧ j < 16 * c + 16 then src a (j - 16 * c) else m a j) ∧ (∀ j, blkF m src c 94 j = if c ≤ j ∧ j < c + 1 then src 94 (j - c) else m 94 j) ∧ (∀ a, 95 ≤ a → a ≤ 97 → ∀ j, blkF m src c a j = if 40 * c ≤ j ∧ j < 40 * c + 40 then src a (j - 40 * c) else m a j) ∧ ∀ j, blkF m src c 98 j = if 240 * c ≤ j ∧ j < 240 * c + 240 then src 98 (j - 240 * c) else m 98 j := by
  have g : ∀ a : Nat, ∀ S K : Int, 89 ≤ a → a ≤ 98 → sta a c = S → kk 4 16 1 40 240 a = K → ∀ j, blkF m src c a j = if S ≤ j ∧ j < S + K then src a (j - S) else m a j := fun a S K a1 a2 e1 e2 j => by
    unfold blkF blk; rw [e1, e2]
    by_cases q : S ≤ j ∧ j < S + K
    · rw [if_pos ⟨a1, a2, q⟩, if_pos q]
    · rw [if_neg (fun z => q z.2.2), if_neg q]
  refine ⟨fun a ha => ?_, g 89 _ _ (by omega) (by omega) rfl rfl, fun a a1 a2 => ?_, g 94 _ _ (by omega) (by omega) rfl rfl, fun a a1 a2 => ?_, g 98 _ _ (by omega) (by omega) rfl rfl⟩
  · funext j; unfold blkF blk; rw [if_neg (by omega)]
  · rcases (show a = 90 ∨ a = 91 ∨ a = 92 ∨ a = 93 by omega) with e | e | e | e <;> (subst e; exact g _ _ _ (by omega) (by omega) rfl rfl)
  · rcases (show a = 95 ∨ a = 96 ∨ a = 97 by omega) with e | e | e <;> (subst e; exact g _ _ _ (by omega) (by omega) rfl rfl)
/-- a chest's block laid over another's -/
theorem blkF_q (m m0 : pM) (a b : Int) (ha : m0 94 a ≤ 40) : chEq m0 a (blkF m (chB m0 a) b) b ∧ ∀ s, 0 ≤ s → s ≤ 15 → blkF m (chB m0 a) b 92 (16 * b + s) = m0 92 (16 * a + s) := by
  obtain ⟨v0, v1, v2, v3, v4, v5⟩ := blkF_v m (chB m0 a) b
  have s2 : ∀ q, 90 ≤ q → q ≤ 93 → ∀ s, 0 ≤ s → s ≤ 15 → blkF m (chB m0 a) b q (16 * b + s) = m0 q (16 * a + s) := fun q q1 q2 s s1 s2 => by
    rw [v2 q q1 q2, if_pos ⟨by omega, by omega⟩]
    show m0 q (sta q a + (16 * b + s - 16 * b)) = _
    rcases (show q = 90 ∨ q = 91 ∨ q = 92 ∨ q = 93 by omega) with e | e | e | e <;> (subst e; congr 1; show 16 * a + _ = _; omega)
  have s4 : ∀ q, 95 ≤ q → q ≤ 97 → ∀ s, 0 ≤ s → s < 40 → blkF m (chB m0 a) b q (40 * b + s) = m0 q (40 * a + s) := fun q q1 q2 s s1 s2 => by
    rw [v4 q q1 q2, if_pos ⟨by omega, by omega⟩]
    show m0 q (sta q a + (40 * b + s - 40 * b)) = _
    rcases (show q = 95 ∨ q = 96 ∨ q = 97 by omega) with e | e | e <;> (subst e; congr 1; show 40 * a + _ = _; omega)
  refine ⟨⟨fun r r1 r2 => ?_, fun s h1 h2 => ⟨s2 90 (by omega) (by omega) s h1 h2, fun _ => ⟨s2 91 (by omega) (by omega) s h1 h2, s2 93 (by omega) (by omega) s h1 h2⟩⟩, ?_, fun k k1 k2 => ⟨s4 95 (by omega) (by omega) k k1 (by omega), s4 96 (by omega) (by omega) k k1 (by omega), s4 97 (by omega) (by omega) k k1 (by omega), fun i i1 i2 => ?_⟩⟩, fun s h1 h2 => s2 92 (by omega) (by omega) s h1 h2⟩
  · rw [v1, if_pos ⟨by omega, by omega⟩]
    show m0 89 (4 * a + (4 * b + r - 4 * b)) = _
    congr 1; omega
  · rw [v3, if_pos ⟨by omega, by omega⟩]
    show m0 94 (a + (b - b)) = _
    congr 1; omega
  · rw [v5, if_pos ⟨by omega, by omega⟩]
    show m0 98 (240 * a + (6 * (40 * b + k) + i - 240 * b)) = _
    congr 1; omega
theorem cpT_v (m : pM) (a b : Int) : (∀ q, q ≠ 99 → q ≠ 100 → rCopyTo m a b q = blkF m (chB m a) b q) ∧ (∀ j, rCopyTo m a b 99 j = if j = b then m 99 a else m 99 j) ∧ ∀ j, rCopyTo m a b 100 j = if j = b then m 100 a else m 100 j := by
  have v := (blkF_v m (chB m a) b).1
  refine ⟨fun q q1 q2 => by unfold rCopyTo; rw [wr_a _ _ _ q2, wr_a _ _ _ q1], fun j => ?_, fun j => ?_⟩
  · unfold rCopyTo; rw [wr_a _ _ _ (by omega)]
    by_cases q : j = b
    · rw [if_pos q, q, wr_s]
    · rw [if_neg q, wr_k _ _ _ _ q, v 99 (by omega)]
  · unfold rCopyTo
    by_cases q : j = b
    · rw [if_pos q, q, wr_s]
    · rw [if_neg q, wr_k _ _ _ _ q, wr_a _ _ _ (by omega), v 100 (by omega)]
theorem cpT_q {A : pM} {a b : Int} (ha : A 94 a ≤ 40) : chEq A a (rCopyTo A a b) b ∧ ∀ s, 0 ≤ s → s ≤ 15 → rCopyTo A a b 92 (16 * b + s) = A 92 (16 * a + s) := by
  have q := blkF_q A A a b ha
  have v := (cpT_v A a b).1
  unfold chEq
  rw [v 89 (by omega) (by omega), v 90 (by omega) (by omega), v 91 (by omega) (by omega), v 92 (by omega) (by omega), v 93 (by omega) (by omega), v 94 (by omega) (by omega), v 95 (by omega) (by omega), v 96 (by omega) (by omega), v 97 (by omega) (by omega), v 98 (by omega) (by omega)]
  exact q
theorem Bd_copy {A : pM} {a k : Int} (h : RI A) (ha : 0 ≤ a ∧ a ≤ 2) (hk : 0 ≤ k ∧ k ≤ 2) : BdX A (rCopyTo A a k) k := by
  have hI := h.1 a ha.1 ha.2
  obtain ⟨q1, q2⟩ := cpT_q (b := k) hI.2.2.1.1.2
  obtain ⟨w1, w2, w3⟩ := cpT_v A a k
  obtain ⟨v0, v1, v2, v3, v4, v5⟩ := blkF_v A (chB A a) k
  refine ⟨cIn_t hI q1 (fun s s1 s2 _ => q2 s s1 s2) (by rw [w2, if_pos rfl]; exact hI.2.2.2.1) (by rw [w3, if_pos rfl]; exact hI.2.2.2.2.1), fun c _ _ q => chX_of (fun j hj => by rw [w1 89 (by omega) (by omega), v1, if_neg (by omega)]) (fun a a1 a2 j hj => by rw [w1 a (by omega) (by omega), v2 a a1 a2, if_neg (by omega)]) (fun a ha j hj => ?_) (fun a a1 a2 j hj => by rw [w1 a (by omega) (by omega), v4 a a1 a2, if_neg (by omega)]) (fun j hj => by rw [w1 98 (by omega) (by omega), v5, if_neg (by omega)]) ((w1 _ (by omega) (by omega)).trans (v0 _ (by omega))) ((w1 _ (by omega) (by omega)).trans (v0 _ (by omega))) c q, ⟨(w1 _ (by omega) (by omega)).trans (v0 _ (by omega)), (w1 _ (by omega) (by omega)).trans (v0 _ (by omega))⟩, fun a a1 a2 _ _ _ => (w1 _ (by omega) (by omega)).trans (v0 _ (by omega)), fun j _ => by rw [w1 88 (by omega) (by omega), v0 88 (by omega)]⟩
  rcases ha with e | e | e
  · subst e; rw [w1 94 (by omega) (by omega), v3, if_neg (by omega)]
  · subst e; rw [w2, if_neg hj]
  · subst e; rw [w3, if_neg hj]
/-! products -/
theorem pW_put {A : pM} {c s kd p e : Int} (hs : 0 ≤ s) (hkd : kd ≠ -1) (k : Nat) : pW (rStand A (16 * c + s) kd p e) c k = (if s < k then p else 1) * aMul A c s k := by
  induction k with
  | zero => show (1 : Int) = (if s < ((0 : Nat) : Int) then p else 1) * 1; rw [if_neg (by omega)]; rfl
  | succ k ih =>
    have es : eSp (rStand A (16 * c + s) kd p e) c k = if (k : Int) = s then p else eSp A c k := by
      have e90 : rStand A (16 * c + s) kd p e 90 (16 * c + k) = if (k : Int) = s then kd else A 90 (16 * c + k) := by
        rw [rSt_v]
        by_cases q : (k : Int) = s
        · rw [if_pos (by omega), if_pos rfl, if_pos q]
        · rw [if_neg (by omega), if_neg q]
      have e91 : rStand A (16 * c + s) kd p e 91 (16 * c + k) = if (k : Int) = s then p else A 91 (16 * c + k) := by
        rw [rSt_v]
        by_cases q : (k : Int) = s
        · rw [if_pos (by omega), if_neg (by omega), if_pos rfl, if_pos q]
        · rw [if_neg (by omega), if_neg q]
      unfold eSp aKind aSpan
      rw [e90, e91]
      by_cases q : (k : Int) = s
      · rw [if_pos q, if_pos q, if_pos q, if_neg hkd]
      · rw [if_neg q, if_neg q, if_neg q]
    show pW (rStand A (16 * c + s) kd p e) c k * eSp (rStand A (16 * c + s) kd p e) c k = _
    rw [ih, es, aMul_w]
    by_cases q : (k : Int) = s
    · rw [if_pos q, if_pos q, if_neg (by omega), if_pos (by omega), Int.one_mul, Int.mul_one, Int.mul_comm]
    · rw [if_neg q, if_neg q]
      by_cases w : s < k
      · rw [if_pos w, if_pos (by omega), Int.mul_assoc]
      · rw [if_neg w, if_neg (by omega), Int.mul_assoc]
theorem aMul_le {A : pM} {c : Int} (h : cIn A c) (s : Int) (k : Nat) (hk : k ≤ 16) : 1 ≤ aMul A c s k ∧ aMul A c s k ≤ pW A c k := by
  induction k with
  | zero => exact ⟨Int.le_refl _, Int.le_refl _⟩
  | succ k ih =>
    have i := ih (by omega)
    have r := eSp_ran h.ok.1.2.2 k (by omega) (by omega)
    rw [aMul_w]
    show _ ∧ _ ≤ pW A c k * eSp A c k
    have g : 1 ≤ (if (k : Int) = s then (1 : Int) else eSp A c k) ∧ (if (k : Int) = s then (1 : Int) else eSp A c k) ≤ eSp A c k := by split <;> omega
    refine ⟨?_, Int.mul_le_mul i.2 g.2 (by omega) (by omega)⟩
    have := Int.mul_le_mul i.1 g.1 (by omega) (by omega)
    omega
theorem aMul_1024 {A : pM} {c : Int} (h : cIn A c) (s : Int) : 1 ≤ aMul A c s 16 ∧ aMul A c s 16 ≤ 1024 := by
  have a := aMul_le h s 16 (by omega)
  have := h.2.2.2.2.2
  omega
set_option maxHeartbeats 4000000 in
set_option maxRecDepth 100000 in
theorem p_built0 (d : Nat) (hd : 1 ≤ d) (n : Nat) (ok : pO) (mem : pM) (hU : ClUp n ok) (c x : Int) (hc : 0 ≤ c ∧ c ≤ 2) (b : Nat) (hbc : (b : Int) = 5 + 18 * c) (h10 : mem 1 10 = ((0 : Nat) : Int)) : PM mi_X9_built d [vr 1, vi c, vi x] n ok mem n (fun r ok' mem' => r = some (vi x) ∧ ok = ok' ∧ wr (bltM mem b c) 1 16 0 = mem') := by
  obtain ⟨hP9, hN, ⟨hn4, ho0, ho1, ho2⟩, hCh, hDr, hM, ⟨hW80, hW82, hW84⟩, q86, q87, hSU, hn133⟩ := id hU
  have hC : ChUp n ok b := hCh b (by omega)
  have hok : ok 4 c.toNat = true := by rcases (show c = 0 ∨ c = 1 ∨ c = 2 by omega) with e | e | e <;> (rw [e]; assumption)
  obtain ⟨hC0, ⟨hC1, hC2, hC3, hC4, hC5, hC6, hC7⟩, hC8, ⟨hC9, hC10, hC11, hC12, hC13, hC14, hC15⟩, hC16, hC17, hb5, hb59⟩ := id hC
  refine PM.of (by decide) (by decide) (Nat.le_refl _) (Nat.le_of_ble_eq_true rfl) ?_
  refine pw_aload_n 0 rfl dX9_built_0 rfl ?_
  refine pw_gR 1 4 dX9_built_1 cOk9 (by assumption) (by decide) kw_348 (by decide) rfl ?_
  refine pw_iload_n 1 rfl dX9_built_4 rfl ?_
  refine pw_aaload (L := 3) dX9_built_5 (by omega) (by omega) rfl rfl (by decide) (by omega) (by omega) b hbc hok ?_
  refine pw_gR 9 (b + 16) dX9_built_6 cOk0 (by assumption) (by decide) kw_250 (by decide) rfl ?_
  refine pw_callV (d' := d - 1) (As := []) (ci := 3) dX9_built_9 ok_X3_letGo kw_419 rfl rfl (Of.o (by assumption)) (by omega) rfl (Nat.le_of_ble_eq_true rfl) (k_letGo (d - 1) (by omega) n ok mem b ⟨hC16, hC17⟩) (Nat.le_refl _) (Or.inl rfl) (fun r ok1 mem1 hq => ?_)
  obtain ⟨rfl, rfl, rfl⟩ := hq
  refine pw_aload_n 0 rfl dX9_built_12 rfl ?_
  refine pw_gV 10 10 0 rfl dX9_built_13 cOk9 (by assumption) (by decide) kw_357 (by decide) (by rw [wr_a _ _ _ (by omega)]; exact h10) ?_
  refine pw_ifnull_t 38 (by decide) dX9_built_16 ?_
  refine pw_aload_n 0 rfl dX9_built_38 rfl ?_
  refine pw_iload_n 2 rfl dX9_built_39 rfl ?_
  refine pw_callV (d' := d - 1) (As := [_]) (ci := 9) dX9_built_40 ok_X9_answered kw_423 rfl rfl (Of.o (by assumption)) (by omega) rfl (Nat.le_of_ble_eq_true rfl) (p_answered (d - 1) (by omega) n ok _ hP9 _) (Nat.le_refl _) (Or.inl rfl) (fun r ok1 mem1 hq => ?_)
  obtain ⟨rfl, rfl, rfl⟩ := hq
  refine pw_iret dX9_built_43 rfl rfl ?_
  refine ⟨rfl, rfl, ?_⟩
  unfold bltM; rw [if_neg (by omega)]
set_option maxHeartbeats 4000000 in
set_option maxRecDepth 100000 in
theorem p_built1 (d : Nat) (hd : 1 ≤ d) (n : Nat) (ok : pO) (mem : pM) (hU : ClUp n ok) (c x : Int) (hc : 0 ≤ c ∧ c ≤ 2) (b : Nat) (hbc : (b : Int) = 5 + 18 * c) (h10 : mem 1 10 = ((123 : Nat) : Int)) (hn9 : n = 133) : PM mi_X9_built d [vr 1, vi c, vi x] n ok mem n (fun r ok' mem' => r = some (vi x) ∧ ok = ok' ∧ wr (bltM mem b c) 1 16 0 = mem') := by
  obtain ⟨hP9, hN, ⟨hn4, ho0, ho1, ho2⟩, hCh, hDr, hM, ⟨hW80, hW82, hW84⟩, q86, q87, hSU, hn133⟩ := id hU
  have hC : ChUp n ok b := hCh b (by omega)
  have hok : ok 4 c.toNat = true := by rcases (show c = 0 ∨ c = 1 ∨ c = 2 by omega) with e | e | e <;> (rw [e]; assumption)
  obtain ⟨hC0, ⟨hC1, hC2, hC3, hC4, hC5, hC6, hC7⟩, hC8, ⟨hC9, hC10, hC11, hC12, hC13, hC14, hC15⟩, hC16, hC17, hb5, hb59⟩ := id hC
  have hS7 : Of n ok 7 123 := (hSU hn9).1
  refine PM.of (by decide) (by decide) (Nat.le_refl _) (Nat.le_of_ble_eq_true rfl) ?_
  refine pw_aload_n 0 rfl dX9_built_0 rfl ?_
  refine pw_gR 1 4 dX9_built_1 cOk9 (by assumption) (by decide) kw_348 (by decide) rfl ?_
  refine pw_iload_n 1 rfl dX9_built_4 rfl ?_
  refine pw_aaload (L := 3) dX9_built_5 (by omega) (by omega) rfl rfl (by decide) (by omega) (by omega) b hbc hok ?_
  refine pw_gR 9 (b + 16) dX9_built_6 cOk0 (by assumption) (by decide) kw_250 (by decide) rfl ?_
  refine pw_callV (d' := d - 1) (As := []) (ci := 3) dX9_built_9 ok_X3_letGo kw_419 rfl rfl (Of.o (by assumption)) (by omega) rfl (Nat.le_of_ble_eq_true rfl) (k_letGo (d - 1) (by omega) n ok mem b ⟨hC16, hC17⟩) (Nat.le_refl _) (Or.inl rfl) (fun r ok1 mem1 hq => ?_)
  obtain ⟨rfl, rfl, rfl⟩ := hq
  refine pw_aload_n 0 rfl dX9_built_12 rfl ?_
  refine pw_gV 10 10 123 rfl dX9_built_13 cOk9 (by assumption) (by decide) kw_357 (by decide) (by rw [wr_a _ _ _ (by omega)]; exact h10) ?_
  refine pw_ifnull_f (by omega) dX9_built_16 ?_
  refine pw_aload_n 0 rfl dX9_built_19 rfl ?_
  refine pw_gV 10 10 123 rfl dX9_built_20 cOk9 (by assumption) (by decide) kw_357 (by decide) (by rw [wr_a _ _ _ (by omega)]; exact h10) ?_
  refine pw_gI 9 9 rfl dX9_built_23 cOk7 hS7 (by decide) kw_567 (by decide) (fun r23 => ?_)
  rw [wr_a _ _ _ (by omega)] at r23 ⊢
  refine pw_iload_n 1 rfl dX9_built_26 rfl ?_
  refine pw_icmp_ne 38 (by decide) dX9_built_27 (by omega) (by omega) (fun c27 => ?_) (fun c27 => ?_)
  · skip
    refine pw_aload_n 0 rfl dX9_built_38 rfl ?_
    refine pw_iload_n 2 rfl dX9_built_39 rfl ?_
    refine pw_callV (d' := d - 1) (As := [_]) (ci := 9) dX9_built_40 ok_X9_answered kw_423 rfl rfl (Of.o (by assumption)) (by omega) rfl (Nat.le_of_ble_eq_true rfl) (p_answered (d - 1) (by omega) n ok _ hP9 _) (Nat.le_refl _) (Or.inl rfl) (fun r ok1 mem1 hq => ?_)
    obtain ⟨rfl, rfl, rfl⟩ := hq
    refine pw_iret dX9_built_43 rfl rfl ?_
    refine ⟨rfl, rfl, ?_⟩
    unfold bltM; rw [if_neg (by omega)]
  · skip
    refine pw_aload_n 0 rfl dX9_built_30 rfl ?_
    refine pw_gV 10 10 123 rfl dX9_built_31 cOk9 (by assumption) (by decide) kw_357 (by decide) (by rw [wr_a _ _ _ (by omega)]; exact h10) ?_
    refine pw_iconst dX9_built_34 ?_
    refine pw_pZ 11 11 rfl dX9_built_35 cOk7 hS7 (by decide) kw_571 rfl rfl (by decide) (by omega) ?_
    refine pw_aload_n 0 rfl dX9_built_38 rfl ?_
    refine pw_iload_n 2 rfl dX9_built_39 rfl ?_
    refine pw_callV (d' := d - 1) (As := [_]) (ci := 9) dX9_built_40 ok_X9_answered kw_423 rfl rfl (Of.o (by assumption)) (by omega) rfl (Nat.le_of_ble_eq_true rfl) (p_answered (d - 1) (by omega) n ok _ hP9 _) (Nat.le_refl _) (Or.inl rfl) (fun r ok1 mem1 hq => ?_)
    obtain ⟨rfl, rfl, rfl⟩ := hq
    refine pw_iret dX9_built_43 rfl rfl ?_
    refine ⟨rfl, rfl, ?_⟩
    unfold bltM; rw [if_pos (by omega)]
theorem p_built (d : Nat) (hd : 1 ≤ d) (n : Nat) (ok : pO) (mem : pM) (hU : ClUp n ok) (c x : Int) (hc : 0 ≤ c ∧ c ≤ 2) (b : Nat) (hbc : (b : Int) = 5 + 18 * c) (h10 : mem 1 10 = 0 ∨ (mem 1 10 = 123 ∧ n = 133)) : PM mi_X9_built d [vr 1, vi c, vi x] n ok mem n (fun r ok' mem' => r = some (vi x) ∧ ok = ok' ∧ wr (bltM mem b c) 1 16 0 = mem') := by
  rcases h10 with z | z
  · exact p_built0 d hd n ok mem hU c x hc b hbc (by omega)
  · exact p_built1 d hd n ok mem hU c x hc b hbc (by omega) z.2
set_option maxHeartbeats 4000000 in
set_option maxRecDepth 100000 in
theorem p_row (d : Nat) (hd : 4 ≤ d) (n : Nat) (ok : pO) (mem : pM) (hU : ClUp n ok) (hG : RG mem mem n) (hRI : RI mem) (c w k : Int) (hc : -2147483648 ≤ c ∧ c ≤ 2147483647) (hw : -2147483648 ≤ w ∧ w ≤ 2147483647) (hk : -2147483648 ≤ k ∧ k ≤ 2147483647)  : PM mi_X9_row d [vr 1, vi c, vi w, vi k] n ok mem n (fun r ok' mem' => r = some (vi (rRow mem c w k).1) ∧ ok = ok' ∧ RE mem mem' ∧ RG (rRow mem c w k).2 mem' n) := by
  obtain ⟨hP9, hN, ⟨hn4, ho0, ho1, ho2⟩, hCh, hDr, hM, ⟨hW80, hW82, hW84⟩, q86, q87, hSU, hn133⟩ := id hU
  obtain ⟨hN5, hN3⟩ := id hN
  obtain ⟨hM4, hM9⟩ := id hM
  obtain ⟨hW8, hWA, -, -⟩ := id hW80
  have hIO := hRI.1
  have hKO := hRI.2.1
  have ht9 := hRI.2.2.1
  have hq0 := hRI.2.2.2.1
  have hty := hRI.2.2.2.2.1
  have hNR := hG.1
  have hNR1 : mem 2 1 = mem 88 19 := hNR.1
  refine PM.of (by decide) (by decide) (Nat.le_refl _) (Nat.le_of_ble_eq_true rfl) ?_
  refine pw_iload_n 1 rfl dX9_row_0 rfl ?_
  refine pw_callS (d' := d - 1) (As := [_]) dX9_row_1 ok_X9_isChest kw_403 (by omega) rfl (Nat.le_of_ble_eq_true rfl) (p_isChest (d - 1) (by omega) n ok _ _ (by omega)) (Nat.le_refl _) (Or.inl rfl) (fun r ok1 mem1 hq => ?_)
  obtain ⟨rfl, rfl, rfl⟩ := hq
  refine pw_if_eq 16 (by decide) dX9_row_4 (by split <;> omega) (fun c4 => ?_) (fun c4 => ?_)
  · skip
    rw [bz_0] at c4
    refine pw_aload_n 0 rfl dX9_row_16 rfl ?_
    refine pw_bipush dX9_row_17 (by decide) ?_
    refine pw_callV (d' := d - 1) (As := [_]) (ci := 9) dX9_row_19 ok_X9_refused kw_406 rfl rfl (Of.o (by assumption)) (by omega) rfl (Nat.le_of_ble_eq_true rfl) (p_refused (d - 1) (by omega) n ok _ hP9 _ (by omega)) (Nat.le_refl _) (Or.inl rfl) (fun r ok1 mem1 hq => ?_)
    obtain ⟨rfl, rfl, rfl⟩ := hq
    refine pw_iret dX9_row_22 rfl rfl ?_
    have e9 : rRow mem c w k = rRef mem (-2) := by
      unfold rRow; (repeat' split) <;> first | rfl | (exfalso; omega) | contradiction
    rw [e9]; exact ⟨rfl, rfl, RE1 _ _, RG_st hG hIO hKO _⟩
  · skip
    rw [bz_n] at c4
    refine pw_iload_n 2 rfl dX9_row_7 rfl ?_
    refine pw_if_lt 16 (by decide) dX9_row_8 (by omega) (fun c8 => ?_) (fun c8 => ?_)
    · skip
      refine pw_aload_n 0 rfl dX9_row_16 rfl ?_
      refine pw_bipush dX9_row_17 (by decide) ?_
      refine pw_callV (d' := d - 1) (As := [_]) (ci := 9) dX9_row_19 ok_X9_refused kw_406 rfl rfl (Of.o (by assumption)) (by omega) rfl (Nat.le_of_ble_eq_true rfl) (p_refused (d - 1) (by omega) n ok _ hP9 _ (by omega)) (Nat.le_refl _) (Or.inl rfl) (fun r ok1 mem1 hq => ?_)
      obtain ⟨rfl, rfl, rfl⟩ := hq
      refine pw_iret dX9_row_22 rfl rfl ?_
      have e9 : rRow mem c w k = rRef mem (-2) := by
        unfold rRow; (repeat' split) <;> first | rfl | (exfalso; omega) | contradiction
      rw [e9]; exact ⟨rfl, rfl, RE1 _ _, RG_st hG hIO hKO _⟩
    · skip
      refine pw_iload_n 2 rfl dX9_row_11 rfl ?_
      refine pw_iconst dX9_row_12 ?_
      refine pw_icmp_lt 23 (by decide) dX9_row_13 (by omega) (by omega) (fun c13 => ?_) (fun c13 => ?_)
      · skip
        refine pw_iload_n 3 rfl dX9_row_23 rfl ?_
        refine pw_iconst dX9_row_24 ?_
        refine pw_icmp_le 35 (by decide) dX9_row_25 (by omega) (by omega) (fun c25 => ?_) (fun c25 => ?_)
        · skip
          refine pw_iload_n 3 rfl dX9_row_35 rfl ?_
          refine pw_iconst dX9_row_36 ?_
          refine pw_icmp_ge 53 (by decide) dX9_row_37 (by omega) (by omega) (fun c37 => ?_) (fun c37 => ?_)
          · skip
            obtain ⟨b, hbc⟩ : ∃ b : Nat, (b : Int) = 5 + 18 * c := ⟨(5 + 18 * c).toNat, by omega⟩
            have hC : ChUp n ok b := hCh b (by omega)
            have hok : ok 4 (c).toNat = true := by rcases (show c = 0 ∨ c = 1 ∨ c = 2 by omega) with e | e | e <;> (rw [e]; assumption)
            obtain ⟨hS, hV, hJ, hKR⟩ := hG.2.1 c b (by omega) (by omega) hbc
            have hI := hIO c (by omega) (by omega)
            have hOk := hI.ok
            obtain ⟨hR, hD, hSo⟩ := id hS
            obtain ⟨hC0, ⟨hC1, hC2, hC3, hC4, hC5, hC6, hC7⟩, hC8, ⟨hC9, hC10, hC11, hC12, hC13, hC14, hC15⟩, hC16, hC17, hb5, hb59⟩ := id hC
            refine pw_aload_n 0 rfl dX9_row_53 rfl ?_
            refine pw_gR 1 4 dX9_row_54 cOk9 (by assumption) (by decide) kw_348 (by decide) rfl ?_
            refine pw_iload_n 1 rfl dX9_row_57 rfl ?_
            refine pw_aaload (L := 3) dX9_row_58 (by omega) (by omega) rfl rfl (by decide) (by omega) (by omega) b hbc hok ?_
            refine pw_iload_n 2 rfl dX9_row_59 rfl ?_
            refine pw_iload_n 3 rfl dX9_row_60 rfl ?_
            refine pw_callV (d' := d - 1) (As := [_, _]) (ci := 0) dX9_row_61 ok_X0_layRow kw_414 rfl rfl (Of.o (by assumption)) (by omega) rfl (Nat.le_of_ble_eq_true rfl) (h_layRow (d - 1) (by omega) n ok mem b hC mem c (aAt mem c) hR hSo hV w k (by omega) (by omega) (cIn_lay hI (by omega) (by omega))) (Nat.le_refl _) (Or.inl rfl) (fun r ok1 mem1 hq => ?_)
            obtain ⟨rfl, rfl, hcm, hS1, hV1⟩ := hq
            have h10 : mem1 1 10 = 0 ∨ (mem1 1 10 = 123 ∧ n = 133) := by rw [hcm.1 1 (by omega)]; exact RG_10 hG
            refine pw_aload_n 0 rfl dX9_row_64 rfl ?_
            refine pw_iload_n 1 rfl dX9_row_65 rfl ?_
            refine pw_iconst dX9_row_66 ?_
            refine pw_callV (d' := d - 1) (As := [_, _]) (ci := 9) dX9_row_67 ok_X9_built kw_415 rfl rfl (Of.o (by assumption)) (by omega) rfl (Nat.le_of_ble_eq_true rfl) (p_built (d - 1) (by omega) n ok mem1 hU c (1) (by omega) b hbc h10) (Nat.le_refl _) (Or.inl rfl) (fun r ok1 mem2 hq => ?_)
            obtain ⟨rfl, rfl, rfl⟩ := hq
            refine pw_iret dX9_row_70 rfl rfl ?_
            have hB : BdX mem (layA mem c w k) c := Bd_lay hRI (by omega) (by omega) (by omega)
            have e9 : rRow mem c w k = rSay (rChg (layA mem c w k) c) (1) := by
              unfold rRow; (repeat' split) <;> first | rfl | (exfalso; omega) | contradiction
            rw [e9]
            have hR2 := RI_bd hRI (by omega) hB
            have hJ1 : mem1 b 13 = (layA mem c w k) 99 c ∧ mem1 b 14 = (layA mem c w k) 100 c := ⟨((hcm.2 13 (by omega) (by omega) (by omega)).trans hJ.1).trans (Eq.symm (congrFun ((layA_v mem c w k).2.2 _ (by omega) (by omega)) _)), ((hcm.2 14 (by omega) (by omega) (by omega)).trans hJ.2).trans (Eq.symm (congrFun ((layA_v mem c w k).2.2 _ (by omega) (by omega)) _))⟩
            refine ⟨congrArg (fun z => some (vi z)) (rfl), rfl, fun a a1 a2 => ?_, RG_st (RG_bd hG hRI (by omega) hbc hB hS1 (CV_t hV1 (fun s _ _ => ⟨rfl, fun _ => congrFun ((layA_v mem c w k).2.2 _ (by omega) (by omega)) _⟩)) hJ1 hcm.1) hR2.1 hR2.2.1 0⟩
            rw [wr_a _ _ _ (by omega), bltM_a _ _ _ _ (by omega) (by omega)]; exact hcm.1 a (by omega)
          · skip
            refine pw_aload_n 0 rfl dX9_row_40 rfl ?_
            refine pw_aload_n 0 rfl dX9_row_41 rfl ?_
            refine pw_gR 0 2 dX9_row_42 cOk9 (by assumption) (by decide) kw_347 (by decide) rfl ?_
            refine pw_iconst dX9_row_45 ?_
            refine pw_callV (d' := d - 1) (As := [_]) (ci := 5) dX9_row_46 ok_X5_met kw_410 rfl rfl (Of.o (by assumption)) (by omega) rfl (Nat.le_of_ble_eq_true rfl) (n_met (d - 1) (by omega) n ok mem hN _ (by omega)) (Nat.le_refl _) (Or.inl rfl) (fun r ok1 mem1 hq => ?_)
            obtain ⟨rfl, rfl, rfl⟩ := hq
            refine pw_callV (d' := d - 1) (As := [_]) (ci := 9) dX9_row_49 ok_X9_refused kw_406 rfl rfl (Of.o (by assumption)) (by omega) rfl (Nat.le_of_ble_eq_true rfl) (p_refused (d - 1) (by omega) n ok _ hP9 _ (by omega)) (Nat.le_refl _) (Or.inl rfl) (fun r ok1 mem1 hq => ?_)
            obtain ⟨rfl, rfl, rfl⟩ := hq
            refine pw_iret dX9_row_52 rfl rfl ?_
            have e9 : rRow mem c w k = rMet mem (4) := by
              unfold rRow; (repeat' split) <;> first | rfl | (exfalso; omega) | contradiction
            rw [e9]; exact ⟨rfl, rfl, RE_met _ _ _, RG_met hG hRI _⟩
        · skip
          refine pw_aload_n 0 rfl dX9_row_28 rfl ?_
          refine pw_bipush dX9_row_29 (by decide) ?_
          refine pw_callV (d' := d - 1) (As := [_]) (ci := 9) dX9_row_31 ok_X9_refused kw_406 rfl rfl (Of.o (by assumption)) (by omega) rfl (Nat.le_of_ble_eq_true rfl) (p_refused (d - 1) (by omega) n ok _ hP9 _ (by omega)) (Nat.le_refl _) (Or.inl rfl) (fun r ok1 mem1 hq => ?_)
          obtain ⟨rfl, rfl, rfl⟩ := hq
          refine pw_iret dX9_row_34 rfl rfl ?_
          have e9 : rRow mem c w k = rRef mem (-3) := by
            unfold rRow; (repeat' split) <;> first | rfl | (exfalso; omega) | contradiction
          rw [e9]; exact ⟨rfl, rfl, RE1 _ _, RG_st hG hIO hKO _⟩
      · skip
        refine pw_aload_n 0 rfl dX9_row_16 rfl ?_
        refine pw_bipush dX9_row_17 (by decide) ?_
        refine pw_callV (d' := d - 1) (As := [_]) (ci := 9) dX9_row_19 ok_X9_refused kw_406 rfl rfl (Of.o (by assumption)) (by omega) rfl (Nat.le_of_ble_eq_true rfl) (p_refused (d - 1) (by omega) n ok _ hP9 _ (by omega)) (Nat.le_refl _) (Or.inl rfl) (fun r ok1 mem1 hq => ?_)
        obtain ⟨rfl, rfl, rfl⟩ := hq
        refine pw_iret dX9_row_22 rfl rfl ?_
        have e9 : rRow mem c w k = rRef mem (-2) := by
          unfold rRow; (repeat' split) <;> first | rfl | (exfalso; omega) | contradiction
        rw [e9]; exact ⟨rfl, rfl, RE1 _ _, RG_st hG hIO hKO _⟩
set_option maxHeartbeats 4000000 in
set_option maxRecDepth 100000 in
theorem p_take (d : Nat) (hd : 4 ≤ d) (n : Nat) (ok : pO) (mem : pM) (hU : ClUp n ok) (hG : RG mem mem n) (hRI : RI mem) (c s : Int) (hc : -2147483648 ≤ c ∧ c ≤ 2147483647) (hs : -2147483648 ≤ s ∧ s ≤ 2147483647)  : PM mi_X9_take d [vr 1, vi c, vi s] n ok mem n (fun r ok' mem' => r = some (vi (rTake mem c s).1) ∧ ok = ok' ∧ RE mem mem' ∧ RG (rTake mem c s).2 mem' n) := by
  obtain ⟨hP9, hN, ⟨hn4, ho0, ho1, ho2⟩, hCh, hDr, hM, ⟨hW80, hW82, hW84⟩, q86, q87, hSU, hn133⟩ := id hU
  obtain ⟨hN5, hN3⟩ := id hN
  obtain ⟨hM4, hM9⟩ := id hM
  obtain ⟨hW8, hWA, -, -⟩ := id hW80
  have hIO := hRI.1
  have hKO := hRI.2.1
  have ht9 := hRI.2.2.1
  have hq0 := hRI.2.2.2.1
  have hty := hRI.2.2.2.2.1
  have hNR := hG.1
  have hNR1 : mem 2 1 = mem 88 19 := hNR.1
  refine PM.of (by decide) (by decide) (Nat.le_refl _) (Nat.le_of_ble_eq_true rfl) ?_
  refine pw_aload_n 0 rfl dX9_take_0 rfl ?_
  refine pw_iload_n 1 rfl dX9_take_1 rfl ?_
  refine pw_iload_n 2 rfl dX9_take_2 rfl ?_
  refine pw_callV (d' := d - 1) (As := [_, _]) (ci := 9) dX9_take_3 ok_X9_refusalOfPart kw_453 rfl rfl (Of.o (by assumption)) (by omega) rfl (Nat.le_of_ble_eq_true rfl) (p_refusalOfPart (d - 1) (by omega) n ok mem hU mem hG hRI c s (by omega) (by omega)) (Nat.le_refl _) (Or.inl rfl) (fun r ok1 m1 hq => ?_)
  obtain ⟨rfl, hrp⟩ := hq
  obtain ⟨x, rfl, hxr, hrs⟩ := rp_split hrp
  clear hrp
  refine pw_istore_n 3 rfl dX9_take_6 (by decide) ?_
  refine pw_iload_n 3 rfl dX9_take_7 rfl ?_
  refine pw_if_eq 17 (by decide) dX9_take_8 (by omega) (fun c8 => ?_) (fun c8 => ?_)
  · skip
    have hz : x = 0 ∧ (0 ≤ c ∧ c ≤ 2) ∧ (0 ≤ s ∧ s ≤ 15) ∧ aComes mem c s = 0 ∧ mem = m1 := by
      rcases hrs with z | z
      · exact z
      · exact absurd c8 z.1
    obtain ⟨hx0, hc2, hs2, hcz, hm1⟩ := hz
    subst hm1
    obtain ⟨b, hbc⟩ : ∃ b : Nat, (b : Int) = 5 + 18 * c := ⟨(5 + 18 * c).toNat, by omega⟩
    have hC : ChUp n ok b := hCh b (by omega)
    have hok : ok 4 (c).toNat = true := by rcases (show c = 0 ∨ c = 1 ∨ c = 2 by omega) with e | e | e <;> (rw [e]; assumption)
    obtain ⟨hS, hV, hJ, hKR⟩ := hG.2.1 c b (by omega) (by omega) hbc
    have hI := hIO c (by omega) (by omega)
    have hOk := hI.ok
    obtain ⟨hR, hD, hSo⟩ := id hS
    obtain ⟨hC0, ⟨hC1, hC2, hC3, hC4, hC5, hC6, hC7⟩, hC8, ⟨hC9, hC10, hC11, hC12, hC13, hC14, hC15⟩, hC16, hC17, hb5, hb59⟩ := id hC
    have hkn := aComes_kind hcz
    have e2 : mem (b + 2) s = mem 90 (16 * c + s) := (hR.2.1 s hs2.1 hs2.2).1
    have e3 : mem (b + 3) s = mem 91 (16 * c + s) := by rw [(hR.2.1 s hs2.1 hs2.2).2.1]; unfold eSp; rw [if_neg hkn]
    have e4 : mem (b + 4) s = mem 92 (16 * c + s) := by rw [hV s hs2.1 hs2.2]; unfold eAv; rw [if_neg hkn]
    have e5 : mem (b + 5) s = mem 93 (16 * c + s) := (hR.2.1 s hs2.1 hs2.2).2.2 hkn
    refine pw_aload_n 0 rfl dX9_take_17 rfl ?_
    refine pw_gR 1 4 dX9_take_18 cOk9 (by assumption) (by decide) kw_348 (by decide) rfl ?_
    refine pw_iload_n 1 rfl dX9_take_21 rfl ?_
    refine pw_aaload (L := 3) dX9_take_22 (by omega) (by omega) rfl rfl (by decide) (by omega) (by omega) b hbc hok ?_
    refine pw_iload_n 2 rfl dX9_take_23 rfl ?_
    refine pw_callV (d' := d - 1) (As := [_]) (ci := 0) dX9_take_24 ok_X0_remove kw_457 rfl rfl (Of.o (by assumption)) (by omega) rfl (Nat.le_of_ble_eq_true rfl) (h_remove (d - 1) (by omega) n ok mem b hC mem c (aAt mem c) hR hSo hV s hs2 (cIn_rem hI)) (Nat.le_refl _) (Or.inl rfl) (fun r ok1 mem1 hq => ?_)
    obtain ⟨rfl, rfl, hcm, hS1, hV1⟩ := hq
    have h10 : mem1 1 10 = 0 ∨ (mem1 1 10 = 123 ∧ n = 133) := by rw [hcm.1 1 (by omega)]; exact RG_10 hG
    refine pw_aload_n 0 rfl dX9_take_27 rfl ?_
    refine pw_iload_n 1 rfl dX9_take_28 rfl ?_
    refine pw_aload_n 0 rfl dX9_take_29 rfl ?_
    refine pw_gR 1 4 dX9_take_30 cOk9 (by assumption) (by decide) kw_348 (by decide) rfl ?_
    refine pw_iload_n 1 rfl dX9_take_33 rfl ?_
    refine pw_aaload (L := 3) dX9_take_34 (by omega) (by omega) rfl rfl (by decide) (by omega) (by omega) b hbc hok ?_
    refine pw_gI 12 12 rfl dX9_take_35 cOk0 (by assumption) (by decide) kw_255 (by decide) (fun r35 => ?_)
    rw [hS1.2.1.2.2.1] at r35 ⊢
    refine pw_callV (d' := d - 1) (As := [_, _]) (ci := 9) dX9_take_38 ok_X9_built kw_415 rfl rfl (Of.o (by assumption)) (by omega) rfl (Nat.le_of_ble_eq_true rfl) (p_built (d - 1) (by omega) n ok mem1 hU c (aParts (wr mem 90 (16 * c + s) (-1)) c 16) (by omega) b hbc h10) (Nat.le_refl _) (Or.inl rfl) (fun r ok1 mem2 hq => ?_)
    obtain ⟨rfl, rfl, rfl⟩ := hq
    refine pw_iret dX9_take_41 rfl rfl ?_
    have hB : BdX mem (wr mem 90 (16 * c + s) (-1)) c := Bd_rem hRI (by omega) (by omega)
    have e9 : rTake mem c s = rSay (rChg (wr mem 90 (16 * c + s) (-1)) c) (aParts (rChg (wr mem 90 (16 * c + s) (-1)) c) c 16) := by
      unfold rTake; (repeat' split) <;> first | rfl | (exfalso; omega) | contradiction
    rw [e9]
    have hR2 := RI_bd hRI (by omega) hB
    have hJ1 : mem1 b 13 = (wr mem 90 (16 * c + s) (-1)) 99 c ∧ mem1 b 14 = (wr mem 90 (16 * c + s) (-1)) 100 c := ⟨((hcm.2 13 (by omega) (by omega) (by omega)).trans hJ.1).trans (Eq.symm (congrFun (wr_a _ _ _ (by omega)) _)), ((hcm.2 14 (by omega) (by omega) (by omega)).trans hJ.2).trans (Eq.symm (congrFun (wr_a _ _ _ (by omega)) _))⟩
    refine ⟨congrArg (fun z => some (vi z)) ((aParts_chg _ _ _ _).symm), rfl, fun a a1 a2 => ?_, RG_st (RG_bd hG hRI (by omega) hbc hB hS1 (CV_t hV1 (fun s _ _ => ⟨rfl, fun _ => congrFun (wr_a _ _ _ (by omega)) _⟩)) hJ1 hcm.1) hR2.1 hR2.2.1 0⟩
    rw [wr_a _ _ _ (by omega), bltM_a _ _ _ _ (by omega) (by omega)]; exact hcm.1 a (by omega)
  · skip
    refine pw_aload_n 0 rfl dX9_take_11 rfl ?_
    refine pw_iload_n 3 rfl dX9_take_12 rfl ?_
    refine pw_callV (d' := d - 1) (As := [_]) (ci := 9) dX9_take_13 ok_X9_refused kw_406 rfl rfl (Of.o (by assumption)) (by omega) rfl (Nat.le_of_ble_eq_true rfl) (p_refused (d - 1) (by omega) n ok _ hP9 _ (by omega)) (Nat.le_refl _) (Or.inl rfl) (fun r ok1 mem1 hq => ?_)
    obtain ⟨rfl, rfl, rfl⟩ := hq
    refine pw_iret dX9_take_16 rfl rfl ?_
    rcases hrs with z | z
    · exact absurd z.1 c8
    · rcases z.2 with y | y | y
      · obtain ⟨y1, y2, y3⟩ := y
        subst y3; subst y2
        have e9 : rTake mem c s = rRef mem (-2) := by
          unfold rTake; (repeat' split) <;> first | rfl | (exfalso; omega) | contradiction
        rw [e9]; exact ⟨rfl, rfl, RE1 _ _, RG_st hG hIO hKO _⟩
      · obtain ⟨y1, y2, y3, y4⟩ := y
        subst y4; subst y3
        have e9 : rTake mem c s = rRef mem (-3) := by
          unfold rTake; (repeat' split) <;> first | rfl | (exfalso; omega) | contradiction
        rw [e9]; exact ⟨rfl, rfl, RE1 _ _, RG_st hG hIO hKO _⟩
      · obtain ⟨y1, y2, y3, y4, y5⟩ := y
        subst y4
        have e9 : rTake mem c s = rMet mem (aComes mem c s) := by
          unfold rTake; (repeat' split) <;> first | rfl | (exfalso; omega) | contradiction
        rw [e9, ← y5]; exact ⟨rfl, rfl, RE_met _ _ _, RG_met hG hRI _⟩
set_option maxHeartbeats 4000000 in
set_option maxRecDepth 100000 in
theorem p_part (d : Nat) (hd : 4 ≤ d) (n : Nat) (ok : pO) (mem : pM) (hU : ClUp n ok) (hG : RG mem mem n) (hRI : RI mem) (c s k p e : Int) (hc : -2147483648 ≤ c ∧ c ≤ 2147483647) (hs : -2147483648 ≤ s ∧ s ≤ 2147483647) (hk : -2147483648 ≤ k ∧ k ≤ 2147483647) (hp : -2147483648 ≤ p ∧ p ≤ 2147483647) (he : -2147483648 ≤ e ∧ e ≤ 2147483647)  : PM mi_X9_part d [vr 1, vi c, vi s, vi k, vi p, vi e] n ok mem n (fun r ok' mem' => r = some (vi (rPart mem c s k p e).1) ∧ ok = ok' ∧ RE mem mem' ∧ RG (rPart mem c s k p e).2 mem' n) := by
  obtain ⟨hP9, hN, ⟨hn4, ho0, ho1, ho2⟩, hCh, hDr, hM, ⟨hW80, hW82, hW84⟩, q86, q87, hSU, hn133⟩ := id hU
  obtain ⟨hN5, hN3⟩ := id hN
  obtain ⟨hM4, hM9⟩ := id hM
  obtain ⟨hW8, hWA, -, -⟩ := id hW80
  have hIO := hRI.1
  have hKO := hRI.2.1
  have ht9 := hRI.2.2.1
  have hq0 := hRI.2.2.2.1
  have hty := hRI.2.2.2.2.1
  have hNR := hG.1
  have hNR1 : mem 2 1 = mem 88 19 := hNR.1
  refine PM.of (by decide) (by decide) (Nat.le_refl _) (Nat.le_of_ble_eq_true rfl) ?_
  refine pw_iload_n 1 rfl dX9_part_0 rfl ?_
  refine pw_callS (d' := d - 1) (As := [_]) dX9_part_1 ok_X9_isChest kw_403 (by omega) rfl (Nat.le_of_ble_eq_true rfl) (p_isChest (d - 1) (by omega) n ok _ _ (by omega)) (Nat.le_refl _) (Or.inl rfl) (fun r ok1 mem1 hq => ?_)
  obtain ⟨rfl, rfl, rfl⟩ := hq
  refine pw_if_ne 14 (by decide) dX9_part_4 (by split <;> omega) (fun c4 => ?_) (fun c4 => ?_)
  · skip
    rw [ne_eq, bz_n] at c4
    refine pw_iload_n 2 rfl dX9_part_14 rfl ?_
    refine pw_callS (d' := d - 1) (As := [_]) dX9_part_15 ok_X9_isSeat kw_431 (by omega) rfl (Nat.le_of_ble_eq_true rfl) (p_isSeat (d - 1) (by omega) n ok _ _ (by omega)) (Nat.le_refl _) (Or.inl rfl) (fun r ok1 mem1 hq => ?_)
    obtain ⟨rfl, rfl, rfl⟩ := hq
    refine pw_if_eq 32 (by decide) dX9_part_18 (by split <;> omega) (fun c18 => ?_) (fun c18 => ?_)
    · skip
      rw [bz_0] at c18
      refine pw_aload_n 0 rfl dX9_part_32 rfl ?_
      refine pw_bipush dX9_part_33 (by decide) ?_
      refine pw_callV (d' := d - 1) (As := [_]) (ci := 9) dX9_part_35 ok_X9_refused kw_406 rfl rfl (Of.o (by assumption)) (by omega) rfl (Nat.le_of_ble_eq_true rfl) (p_refused (d - 1) (by omega) n ok _ hP9 _ (by omega)) (Nat.le_refl _) (Or.inl rfl) (fun r ok1 mem1 hq => ?_)
      obtain ⟨rfl, rfl, rfl⟩ := hq
      refine pw_iret dX9_part_38 rfl rfl ?_
      have e9 : rPart mem c s k p e = rRef mem (-3) := by
        unfold rPart; (repeat' split) <;> first | rfl | (exfalso; omega) | contradiction
      rw [e9]; exact ⟨rfl, rfl, RE1 _ _, RG_st hG hIO hKO _⟩
    · skip
      rw [bz_n] at c18
      refine pw_iload_n 3 rfl dX9_part_21 rfl ?_
      refine pw_iload dX9_part_22 rfl ?_
      refine pw_iload dX9_part_24 rfl ?_
      refine pw_callS (d' := d - 1) (As := [_, _, _]) dX9_part_26 ok_X9_isPart kw_434 (by omega) rfl (Nat.le_of_ble_eq_true rfl) (p_isPart (d - 1) (by omega) n ok _ _ _ _ (by omega) (by omega) (by omega)) (Nat.le_refl _) (Or.inl rfl) (fun r ok1 mem1 hq => ?_)
      obtain ⟨rfl, rfl, rfl⟩ := hq
      refine pw_if_ne 39 (by decide) dX9_part_29 (by split <;> omega) (fun c29 => ?_) (fun c29 => ?_)
      · skip
        rw [ne_eq, bz_n] at c29
        obtain ⟨b, hbc⟩ : ∃ b : Nat, (b : Int) = 5 + 18 * c := ⟨(5 + 18 * c).toNat, by omega⟩
        have hC : ChUp n ok b := hCh b (by omega)
        have hok : ok 4 (c).toNat = true := by rcases (show c = 0 ∨ c = 1 ∨ c = 2 by omega) with e | e | e <;> (rw [e]; assumption)
        obtain ⟨hS, hV, hJ, hKR⟩ := hG.2.1 c b (by omega) (by omega) hbc
        have hI := hIO c (by omega) (by omega)
        have hOk := hI.ok
        obtain ⟨hR, hD, hSo⟩ := id hS
        obtain ⟨hC0, ⟨hC1, hC2, hC3, hC4, hC5, hC6, hC7⟩, hC8, ⟨hC9, hC10, hC11, hC12, hC13, hC14, hC15⟩, hC16, hC17, hb5, hb59⟩ := id hC
        have hp6 : 1 ≤ p ∧ p ≤ 6 := ⟨c29.2.1.1, by have := c29.2.1.2; split at this <;> omega⟩
        have hrw : (mem 89 (4 * c + s / 4) = -1 ∧ rowF mem c s = 1) ∨ (mem 89 (4 * c + s / 4) ≠ -1 ∧ mem 89 (4 * c + s / 4) ≤ s % 4 ∧ rowF mem c s = 2) ∨ (mem 89 (4 * c + s / 4) ≠ -1 ∧ s % 4 < mem 89 (4 * c + s / 4) ∧ rowF mem c s = 0) := by
          unfold rowF; (repeat' split) <;> omega
        have hmu := aMul_1024 hI s
        have hpc : aMul mem c s 16 * p = p * aMul mem c s 16 := Int.mul_comm _ _
        have hpm : p * aMul mem c s 16 ≤ 6144 ∧ 0 ≤ p * aMul mem c s 16 := by
          have h1 := Int.mul_le_mul hp6.2 hmu.2 (by omega) (by omega)
          have h2 := Int.mul_nonneg (show 0 ≤ p by omega) (show 0 ≤ aMul mem c s 16 by omega)
          omega
        refine pw_aload_n 0 rfl dX9_part_39 rfl ?_
        refine pw_gR 1 4 dX9_part_40 cOk9 (by assumption) (by decide) kw_348 (by decide) rfl ?_
        refine pw_iload_n 1 rfl dX9_part_43 rfl ?_
        refine pw_aaload (L := 3) dX9_part_44 (by omega) (by omega) rfl rfl (by decide) (by omega) (by omega) b hbc hok ?_
        refine pw_astore dX9_part_45 (by decide) ?_
        refine pw_aload dX9_part_47 rfl ?_
        refine pw_iload_n 2 rfl dX9_part_49 rfl ?_
        refine pw_iconst dX9_part_50 ?_
        refine pw_callV (d' := d - 1) (As := [_, _]) (ci := 0) dX9_part_51 ok_X0_findingAt kw_437 rfl rfl (Of.o (by assumption)) (by omega) rfl (Nat.le_of_ble_eq_true rfl) (h_findingAt (d - 1) (by omega) n ok mem hN b hC mem c (aAt mem c) hI hS hV hOk.2.1 s (by omega) 0 (by omega)) (Nat.le_refl _) (Or.inl rfl) (fun r ok1 mem1 hq => ?_)
        obtain ⟨rfl, rfl, rfl⟩ := hq
        rw [if_pos rfl]
        refine pw_istore dX9_part_54 (by decide) ?_
        refine pw_iload dX9_part_56 rfl ?_
        refine pw_if_eq 75 (by decide) dX9_part_58 (by omega) (fun c58 => ?_) (fun c58 => ?_)
        · skip
          refine pw_aload dX9_part_75 rfl ?_
          refine pw_iload_n 2 rfl dX9_part_77 rfl ?_
          refine pw_iload dX9_part_78 rfl ?_
          refine pw_callV (d' := d - 1) (As := [_, _]) (ci := 0) dX9_part_80 ok_X0_productWith kw_441 rfl rfl (Of.o (by assumption)) (by omega) rfl (Nat.le_of_ble_eq_true rfl) (h_productWith (d - 1) (by omega) n ok mem b hC mem c hR s p (by omega) (by omega)) (Nat.le_refl _) (Or.inl rfl) (fun r ok1 mem1 hq => ?_)
          obtain ⟨rfl, rfl, rfl⟩ := hq
          refine pw_sipush dX9_part_83 (by decide) ?_
          refine pw_icmp_le 96 (by decide) dX9_part_86 (by omega) (by omega) (fun c86 => ?_) (fun c86 => ?_)
          · skip
            have hI2 : cIn (rStand mem (16 * c + s) k p e) c := cIn_put hI (by omega) (by omega) c29.2.1 (by omega) (by omega) (by rw [pW_put (by omega) (by omega) 16, if_pos (by omega)]; omega)
            refine pw_aload dX9_part_96 rfl ?_
            refine pw_iload_n 2 rfl dX9_part_98 rfl ?_
            refine pw_iload_n 3 rfl dX9_part_99 rfl ?_
            refine pw_iload dX9_part_100 rfl ?_
            refine pw_iload dX9_part_102 rfl ?_
            refine pw_callV (d' := d - 1) (As := [_, _, _, _]) (ci := 0) dX9_part_104 ok_X0_put kw_445 rfl rfl (Of.o (by assumption)) (by omega) rfl (Nat.le_of_ble_eq_true rfl) (h_put (d - 1) (by omega) n ok mem b hC mem c (aAt mem c) hR hSo hV s k p e (by omega) (by omega) (by omega) (by omega) hI2) (Nat.le_refl _) (Or.inl rfl) (fun r ok1 mem1 hq => ?_)
            obtain ⟨rfl, rfl, hcm, hS1, hV1⟩ := hq
            have h10 : mem1 1 10 = 0 ∨ (mem1 1 10 = 123 ∧ n = 133) := by rw [hcm.1 1 (by omega)]; exact RG_10 hG
            refine pw_aload_n 0 rfl dX9_part_107 rfl ?_
            refine pw_iload_n 1 rfl dX9_part_108 rfl ?_
            refine pw_aload dX9_part_109 rfl ?_
            refine pw_gI 12 12 rfl dX9_part_111 cOk0 (by assumption) (by decide) kw_255 (by decide) (fun r111 => ?_)
            rw [hS1.2.1.2.2.1] at r111 ⊢
            refine pw_callV (d' := d - 1) (As := [_, _]) (ci := 9) dX9_part_114 ok_X9_built kw_415 rfl rfl (Of.o (by assumption)) (by omega) rfl (Nat.le_of_ble_eq_true rfl) (p_built (d - 1) (by omega) n ok mem1 hU c (aParts (rStand mem (16 * c + s) k p e) c 16) (by omega) b hbc h10) (Nat.le_refl _) (Or.inl rfl) (fun r ok1 mem2 hq => ?_)
            obtain ⟨rfl, rfl, rfl⟩ := hq
            refine pw_iret dX9_part_117 rfl rfl ?_
            have hB : BdX mem (rStand mem (16 * c + s) k p e) c := Bd_put (by omega) hI2
            have e9 : rPart mem c s k p e = rSay (rChg (rStand mem (16 * c + s) k p e) c) (aParts (rChg (rStand mem (16 * c + s) k p e) c) c 16) := by
              unfold rPart; (repeat' split) <;> first | rfl | (exfalso; omega) | contradiction
            rw [e9]
            have hR2 := RI_bd hRI (by omega) hB
            have hJ1 : mem1 b 13 = (rStand mem (16 * c + s) k p e) 99 c ∧ mem1 b 14 = (rStand mem (16 * c + s) k p e) 100 c := ⟨((hcm.2 13 (by omega) (by omega) (by omega)).trans hJ.1).trans (Eq.symm (by show rStand mem (16 * c + s) k p e 99 c = mem 99 c; unfold rStand; simp (disch := omega) only [wr_a])), ((hcm.2 14 (by omega) (by omega) (by omega)).trans hJ.2).trans (Eq.symm (by show rStand mem (16 * c + s) k p e 100 c = mem 100 c; unfold rStand; simp (disch := omega) only [wr_a]))⟩
            refine ⟨congrArg (fun z => some (vi z)) ((aParts_chg _ _ _ _).symm), rfl, fun a a1 a2 => ?_, RG_st (RG_bd hG hRI (by omega) hbc hB hS1 (CV_t hV1 (fun q q1 q2 => ⟨rfl, fun _ => by show rStand mem (16 * c + s) k p e 92 (16 * c + q) = vUp (aAt mem c) s 0 q; rw [rSt_v]; unfold vUp; (repeat' split) <;> first | rfl | (exfalso; omega)⟩)) hJ1 hcm.1) hR2.1 hR2.2.1 0⟩
            rw [wr_a _ _ _ (by omega), bltM_a _ _ _ _ (by omega) (by omega)]; exact hcm.1 a (by omega)
          · skip
            refine pw_aload_n 0 rfl dX9_part_89 rfl ?_
            refine pw_bipush dX9_part_90 (by decide) ?_
            refine pw_callV (d' := d - 1) (As := [_]) (ci := 9) dX9_part_92 ok_X9_refused kw_406 rfl rfl (Of.o (by assumption)) (by omega) rfl (Nat.le_of_ble_eq_true rfl) (p_refused (d - 1) (by omega) n ok _ hP9 _ (by omega)) (Nat.le_refl _) (Or.inl rfl) (fun r ok1 mem1 hq => ?_)
            obtain ⟨rfl, rfl, rfl⟩ := hq
            refine pw_iret dX9_part_95 rfl rfl ?_
            have e9 : rPart mem c s k p e = rRef mem (-5) := by
              unfold rPart; (repeat' split) <;> first | rfl | (exfalso; omega) | contradiction
            rw [e9]; exact ⟨rfl, rfl, RE1 _ _, RG_st hG hIO hKO _⟩
        · skip
          refine pw_aload_n 0 rfl dX9_part_61 rfl ?_
          refine pw_aload_n 0 rfl dX9_part_62 rfl ?_
          refine pw_gR 0 2 dX9_part_63 cOk9 (by assumption) (by decide) kw_347 (by decide) rfl ?_
          refine pw_iload dX9_part_66 rfl ?_
          refine pw_callV (d' := d - 1) (As := [_]) (ci := 5) dX9_part_68 ok_X5_met kw_410 rfl rfl (Of.o (by assumption)) (by omega) rfl (Nat.le_of_ble_eq_true rfl) (n_met (d - 1) (by omega) n ok mem hN _ (by omega)) (Nat.le_refl _) (Or.inl rfl) (fun r ok1 mem1 hq => ?_)
          obtain ⟨rfl, rfl, rfl⟩ := hq
          refine pw_callV (d' := d - 1) (As := [_]) (ci := 9) dX9_part_71 ok_X9_refused kw_406 rfl rfl (Of.o (by assumption)) (by omega) rfl (Nat.le_of_ble_eq_true rfl) (p_refused (d - 1) (by omega) n ok _ hP9 _ (by omega)) (Nat.le_refl _) (Or.inl rfl) (fun r ok1 mem1 hq => ?_)
          obtain ⟨rfl, rfl, rfl⟩ := hq
          refine pw_iret dX9_part_74 rfl rfl ?_
          have e9 : rPart mem c s k p e = rMet mem (rowF mem c s) := by
            rcases hrw with z | z | z
            · rw [z.2]; unfold rPart; (repeat' split) <;> first | rfl | (exfalso; omega) | contradiction
            · rw [z.2.2]; unfold rPart; (repeat' split) <;> first | rfl | (exfalso; omega) | contradiction
            · exfalso; omega
          rw [e9]; exact ⟨rfl, rfl, RE_met _ _ _, RG_met hG hRI _⟩
      · skip
        rw [bz_0] at c29
        refine pw_aload_n 0 rfl dX9_part_32 rfl ?_
        refine pw_bipush dX9_part_33 (by decide) ?_
        refine pw_callV (d' := d - 1) (As := [_]) (ci := 9) dX9_part_35 ok_X9_refused kw_406 rfl rfl (Of.o (by assumption)) (by omega) rfl (Nat.le_of_ble_eq_true rfl) (p_refused (d - 1) (by omega) n ok _ hP9 _ (by omega)) (Nat.le_refl _) (Or.inl rfl) (fun r ok1 mem1 hq => ?_)
        obtain ⟨rfl, rfl, rfl⟩ := hq
        refine pw_iret dX9_part_38 rfl rfl ?_
        have e9 : rPart mem c s k p e = rRef mem (-3) := by
          unfold rPart; (repeat' split) <;> first | rfl | (exfalso; omega) | contradiction
        rw [e9]; exact ⟨rfl, rfl, RE1 _ _, RG_st hG hIO hKO _⟩
  · skip
    rw [bz_0] at c4
    refine pw_aload_n 0 rfl dX9_part_7 rfl ?_
    refine pw_bipush dX9_part_8 (by decide) ?_
    refine pw_callV (d' := d - 1) (As := [_]) (ci := 9) dX9_part_10 ok_X9_refused kw_406 rfl rfl (Of.o (by assumption)) (by omega) rfl (Nat.le_of_ble_eq_true rfl) (p_refused (d - 1) (by omega) n ok _ hP9 _ (by omega)) (Nat.le_refl _) (Or.inl rfl) (fun r ok1 mem1 hq => ?_)
    obtain ⟨rfl, rfl, rfl⟩ := hq
    refine pw_iret dX9_part_13 rfl rfl ?_
    have e9 : rPart mem c s k p e = rRef mem (-2) := by
      unfold rPart; (repeat' split) <;> first | rfl | (exfalso; omega) | contradiction
    rw [e9]; exact ⟨rfl, rfl, RE1 _ _, RG_st hG hIO hKO _⟩
set_option maxHeartbeats 4000000 in
set_option maxRecDepth 100000 in
theorem p_condition (d : Nat) (hd : 4 ≤ d) (n : Nat) (ok : pO) (mem : pM) (hU : ClUp n ok) (hG : RG mem mem n) (hRI : RI mem) (c a l k : Int) (hc : -2147483648 ≤ c ∧ c ≤ 2147483647) (ha : -2147483648 ≤ a ∧ a ≤ 2147483647) (hl : -2147483648 ≤ l ∧ l ≤ 2147483647) (hk : -2147483648 ≤ k ∧ k ≤ 2147483647)  : PM mi_X9_condition d [vr 1, vi c, vi a, vi l, vi k] n ok mem n (fun r ok' mem' => r = some (vi (rCond mem c a l k).1) ∧ ok = ok' ∧ RE mem mem' ∧ RG (rCond mem c a l k).2 mem' n) := by
  obtain ⟨hP9, hN, ⟨hn4, ho0, ho1, ho2⟩, hCh, hDr, hM, ⟨hW80, hW82, hW84⟩, q86, q87, hSU, hn133⟩ := id hU
  obtain ⟨hN5, hN3⟩ := id hN
  obtain ⟨hM4, hM9⟩ := id hM
  obtain ⟨hW8, hWA, -, -⟩ := id hW80
  have hIO := hRI.1
  have hKO := hRI.2.1
  have ht9 := hRI.2.2.1
  have hq0 := hRI.2.2.2.1
  have hty := hRI.2.2.2.2.1
  have hNR := hG.1
  have hNR1 : mem 2 1 = mem 88 19 := hNR.1
  refine PM.of (by decide) (by decide) (Nat.le_refl _) (Nat.le_of_ble_eq_true rfl) ?_
  refine pw_iload_n 1 rfl dX9_condition_0 rfl ?_
  refine pw_callS (d' := d - 1) (As := [_]) dX9_condition_1 ok_X9_isChest kw_403 (by omega) rfl (Nat.le_of_ble_eq_true rfl) (p_isChest (d - 1) (by omega) n ok _ _ (by omega)) (Nat.le_refl _) (Or.inl rfl) (fun r ok1 mem1 hq => ?_)
  obtain ⟨rfl, rfl, rfl⟩ := hq
  refine pw_if_ne 14 (by decide) dX9_condition_4 (by split <;> omega) (fun c4 => ?_) (fun c4 => ?_)
  · skip
    rw [ne_eq, bz_n] at c4
    refine pw_iload_n 2 rfl dX9_condition_14 rfl ?_
    refine pw_iconst dX9_condition_15 ?_
    refine pw_icmp_eq 26 (by decide) dX9_condition_16 (by omega) (by omega) (fun c16 => ?_) (fun c16 => ?_)
    · skip
      refine pw_iload_n 3 rfl dX9_condition_26 rfl ?_
      refine pw_callS (d' := d - 1) (As := [_]) dX9_condition_27 ok_X9_isSeat kw_431 (by omega) rfl (Nat.le_of_ble_eq_true rfl) (p_isSeat (d - 1) (by omega) n ok _ _ (by omega)) (Nat.le_refl _) (Or.inl rfl) (fun r ok1 mem1 hq => ?_)
      obtain ⟨rfl, rfl, rfl⟩ := hq
      refine pw_if_eq 40 (by decide) dX9_condition_30 (by split <;> omega) (fun c30 => ?_) (fun c30 => ?_)
      · skip
        rw [bz_0] at c30
        refine pw_aload_n 0 rfl dX9_condition_40 rfl ?_
        refine pw_bipush dX9_condition_41 (by decide) ?_
        refine pw_callV (d' := d - 1) (As := [_]) (ci := 9) dX9_condition_43 ok_X9_refused kw_406 rfl rfl (Of.o (by assumption)) (by omega) rfl (Nat.le_of_ble_eq_true rfl) (p_refused (d - 1) (by omega) n ok _ hP9 _ (by omega)) (Nat.le_refl _) (Or.inl rfl) (fun r ok1 mem1 hq => ?_)
        obtain ⟨rfl, rfl, rfl⟩ := hq
        refine pw_iret dX9_condition_46 rfl rfl ?_
        have e9 : rCond mem c a l k = rRef mem (-3) := by
          unfold rCond; (repeat' split) <;> first | rfl | (exfalso; omega) | contradiction
        rw [e9]; exact ⟨rfl, rfl, RE1 _ _, RG_st hG hIO hKO _⟩
      · skip
        rw [bz_n] at c30
        refine pw_iload dX9_condition_33 rfl ?_
        refine pw_bipush dX9_condition_35 (by decide) ?_
        refine pw_icmp_le 47 (by decide) dX9_condition_37 (by omega) (by omega) (fun c37 => ?_) (fun c37 => ?_)
        · skip
          refine pw_iload dX9_condition_47 rfl ?_
          refine pw_iconst dX9_condition_49 ?_
          refine pw_icmp_ge 66 (by decide) dX9_condition_50 (by omega) (by omega) (fun c50 => ?_) (fun c50 => ?_)
          · skip
            obtain ⟨b, hbc⟩ : ∃ b : Nat, (b : Int) = 5 + 18 * c := ⟨(5 + 18 * c).toNat, by omega⟩
            have hC : ChUp n ok b := hCh b (by omega)
            have hok : ok 4 (c).toNat = true := by rcases (show c = 0 ∨ c = 1 ∨ c = 2 by omega) with e | e | e <;> (rw [e]; assumption)
            obtain ⟨hS, hV, hJ, hKR⟩ := hG.2.1 c b (by omega) (by omega) hbc
            have hI := hIO c (by omega) (by omega)
            have hOk := hI.ok
            obtain ⟨hR, hD, hSo⟩ := id hS
            obtain ⟨hC0, ⟨hC1, hC2, hC3, hC4, hC5, hC6, hC7⟩, hC8, ⟨hC9, hC10, hC11, hC12, hC13, hC14, hC15⟩, hC16, hC17, hb5, hb59⟩ := id hC
            have hnc := hI.2.2.1.1
            refine pw_aload_n 0 rfl dX9_condition_66 rfl ?_
            refine pw_gR 1 4 dX9_condition_67 cOk9 (by assumption) (by decide) kw_348 (by decide) rfl ?_
            refine pw_iload_n 1 rfl dX9_condition_70 rfl ?_
            refine pw_aaload (L := 3) dX9_condition_71 (by omega) (by omega) rfl rfl (by decide) (by omega) (by omega) b hbc hok ?_
            refine pw_astore dX9_condition_72 (by decide) ?_
            refine pw_aload dX9_condition_74 rfl ?_
            refine pw_gR 8 (b + 8) dX9_condition_76 cOk0 (by assumption) (by decide) kw_248 (by decide) rfl ?_
            refine pw_gI 7 7 rfl dX9_condition_79 cOk1 (by assumption) (by decide) kw_153 (by decide) (fun r79 => ?_)
            rw [hR.2.2.1] at r79 ⊢
            refine pw_bipush dX9_condition_82 (by decide) ?_
            refine pw_icmp_lt 94 (by decide) dX9_condition_84 (by omega) (by omega) (fun c84 => ?_) (fun c84 => ?_)
            · skip
              refine pw_aload_n 0 rfl dX9_condition_94 rfl ?_
              refine pw_iload_n 1 rfl dX9_condition_95 rfl ?_
              refine pw_aload dX9_condition_96 rfl ?_
              refine pw_iload_n 2 rfl dX9_condition_98 rfl ?_
              refine pw_iload_n 3 rfl dX9_condition_99 rfl ?_
              refine pw_iload dX9_condition_100 rfl ?_
              refine pw_callV (d' := d - 1) (As := [_, _, _]) (ci := 0) dX9_condition_102 ok_X0_addCondition kw_465 rfl rfl (Of.o (by assumption)) (by omega) rfl (Nat.le_of_ble_eq_true rfl) (h_addCondition (d - 1) (by omega) n ok mem b hC mem c (aAt mem c) hR hSo hV hI a l k (by omega) (by omega) (by omega) (by omega) (cIn_more hI (by omega) (by omega) (by omega) (by omega))) (Nat.le_refl _) (Or.inl rfl) (fun r ok1 mem1 hq => ?_)
              obtain ⟨rfl, rfl, hcm, hS1, hV1⟩ := hq
              have h10 : mem1 1 10 = 0 ∨ (mem1 1 10 = 123 ∧ n = 133) := by rw [hcm.1 1 (by omega)]; exact RG_10 hG
              refine pw_callV (d' := d - 1) (As := [_, _]) (ci := 9) dX9_condition_105 ok_X9_built kw_415 rfl rfl (Of.o (by assumption)) (by omega) rfl (Nat.le_of_ble_eq_true rfl) (p_built (d - 1) (by omega) n ok mem1 hU c (mem 94 c) (by omega) b hbc h10) (Nat.le_refl _) (Or.inl rfl) (fun r ok1 mem2 hq => ?_)
              obtain ⟨rfl, rfl, rfl⟩ := hq
              refine pw_iret dX9_condition_108 rfl rfl ?_
              have hB : BdX mem (rMore mem c a l k) c := Bd_more hRI (by omega) (cIn_more hI (by omega) (by omega) (by omega) (by omega)) (by omega)
              have e9 : rCond mem c a l k = rSay (rChg (rMore mem c a l k) c) (mem 94 c) := by
                unfold rCond; (repeat' split) <;> first | rfl | (exfalso; omega) | contradiction
              rw [e9]
              have hR2 := RI_bd hRI (by omega) hB
              have hJ1 : mem1 b 13 = (rMore mem c a l k) 99 c ∧ mem1 b 14 = (rMore mem c a l k) 100 c := ⟨((hcm.2 13 (by omega) (by omega) (by omega)).trans hJ.1).trans (Eq.symm (by show rMore mem c a l k 99 _ = mem 99 _; unfold rMore; rw [wr_a _ _ _ (by omega), fiM_a _ _ _ _ (by omega), wr_a _ _ _ (by omega), wr_a _ _ _ (by omega), wr_a _ _ _ (by omega)])), ((hcm.2 14 (by omega) (by omega) (by omega)).trans hJ.2).trans (Eq.symm (by show rMore mem c a l k 100 _ = mem 100 _; unfold rMore; rw [wr_a _ _ _ (by omega), fiM_a _ _ _ _ (by omega), wr_a _ _ _ (by omega), wr_a _ _ _ (by omega), wr_a _ _ _ (by omega)]))⟩
              refine ⟨congrArg (fun z => some (vi z)) (rfl), rfl, fun a a1 a2 => ?_, RG_st (RG_bd hG hRI (by omega) hbc hB hS1 (CV_t hV1 (fun s _ _ => ⟨rfl, fun _ => by show rMore mem c a l k 92 _ = mem 92 _; unfold rMore; rw [wr_a _ _ _ (by omega), fiM_a _ _ _ _ (by omega), wr_a _ _ _ (by omega), wr_a _ _ _ (by omega), wr_a _ _ _ (by omega)]⟩)) hJ1 hcm.1) hR2.1 hR2.2.1 0⟩
              rw [wr_a _ _ _ (by omega), bltM_a _ _ _ _ (by omega) (by omega)]; exact hcm.1 a (by omega)
            · skip
              refine pw_aload_n 0 rfl dX9_condition_87 rfl ?_
              refine pw_bipush dX9_condition_88 (by decide) ?_
              refine pw_callV (d' := d - 1) (As := [_]) (ci := 9) dX9_condition_90 ok_X9_refused kw_406 rfl rfl (Of.o (by assumption)) (by omega) rfl (Nat.le_of_ble_eq_true rfl) (p_refused (d - 1) (by omega) n ok _ hP9 _ (by omega)) (Nat.le_refl _) (Or.inl rfl) (fun r ok1 mem1 hq => ?_)
              obtain ⟨rfl, rfl, rfl⟩ := hq
              refine pw_iret dX9_condition_93 rfl rfl ?_
              have e9 : rCond mem c a l k = rRef mem (-5) := by
                unfold rCond; (repeat' split) <;> first | rfl | (exfalso; omega) | contradiction
              rw [e9]; exact ⟨rfl, rfl, RE1 _ _, RG_st hG hIO hKO _⟩
          · skip
            refine pw_aload_n 0 rfl dX9_condition_53 rfl ?_
            refine pw_aload_n 0 rfl dX9_condition_54 rfl ?_
            refine pw_gR 0 2 dX9_condition_55 cOk9 (by assumption) (by decide) kw_347 (by decide) rfl ?_
            refine pw_iconst dX9_condition_58 ?_
            refine pw_callV (d' := d - 1) (As := [_]) (ci := 5) dX9_condition_59 ok_X5_met kw_410 rfl rfl (Of.o (by assumption)) (by omega) rfl (Nat.le_of_ble_eq_true rfl) (n_met (d - 1) (by omega) n ok mem hN _ (by omega)) (Nat.le_refl _) (Or.inl rfl) (fun r ok1 mem1 hq => ?_)
            obtain ⟨rfl, rfl, rfl⟩ := hq
            refine pw_callV (d' := d - 1) (As := [_]) (ci := 9) dX9_condition_62 ok_X9_refused kw_406 rfl rfl (Of.o (by assumption)) (by omega) rfl (Nat.le_of_ble_eq_true rfl) (p_refused (d - 1) (by omega) n ok _ hP9 _ (by omega)) (Nat.le_refl _) (Or.inl rfl) (fun r ok1 mem1 hq => ?_)
            obtain ⟨rfl, rfl, rfl⟩ := hq
            refine pw_iret dX9_condition_65 rfl rfl ?_
            have e9 : rCond mem c a l k = rMet mem (4) := by
              unfold rCond; (repeat' split) <;> first | rfl | (exfalso; omega) | contradiction
            rw [e9]; exact ⟨rfl, rfl, RE_met _ _ _, RG_met hG hRI _⟩
        · skip
          refine pw_aload_n 0 rfl dX9_condition_40 rfl ?_
          refine pw_bipush dX9_condition_41 (by decide) ?_
          refine pw_callV (d' := d - 1) (As := [_]) (ci := 9) dX9_condition_43 ok_X9_refused kw_406 rfl rfl (Of.o (by assumption)) (by omega) rfl (Nat.le_of_ble_eq_true rfl) (p_refused (d - 1) (by omega) n ok _ hP9 _ (by omega)) (Nat.le_refl _) (Or.inl rfl) (fun r ok1 mem1 hq => ?_)
          obtain ⟨rfl, rfl, rfl⟩ := hq
          refine pw_iret dX9_condition_46 rfl rfl ?_
          have e9 : rCond mem c a l k = rRef mem (-3) := by
            unfold rCond; (repeat' split) <;> first | rfl | (exfalso; omega) | contradiction
          rw [e9]; exact ⟨rfl, rfl, RE1 _ _, RG_st hG hIO hKO _⟩
    · skip
      refine pw_iload_n 2 rfl dX9_condition_19 rfl ?_
      refine pw_callS (d' := d - 1) (As := [_]) dX9_condition_20 ok_X9_isSeat kw_431 (by omega) rfl (Nat.le_of_ble_eq_true rfl) (p_isSeat (d - 1) (by omega) n ok _ _ (by omega)) (Nat.le_refl _) (Or.inl rfl) (fun r ok1 mem1 hq => ?_)
      obtain ⟨rfl, rfl, rfl⟩ := hq
      refine pw_if_eq 40 (by decide) dX9_condition_23 (by split <;> omega) (fun c23 => ?_) (fun c23 => ?_)
      · skip
        rw [bz_0] at c23
        refine pw_aload_n 0 rfl dX9_condition_40 rfl ?_
        refine pw_bipush dX9_condition_41 (by decide) ?_
        refine pw_callV (d' := d - 1) (As := [_]) (ci := 9) dX9_condition_43 ok_X9_refused kw_406 rfl rfl (Of.o (by assumption)) (by omega) rfl (Nat.le_of_ble_eq_true rfl) (p_refused (d - 1) (by omega) n ok _ hP9 _ (by omega)) (Nat.le_refl _) (Or.inl rfl) (fun r ok1 mem1 hq => ?_)
        obtain ⟨rfl, rfl, rfl⟩ := hq
        refine pw_iret dX9_condition_46 rfl rfl ?_
        have e9 : rCond mem c a l k = rRef mem (-3) := by
          unfold rCond; (repeat' split) <;> first | rfl | (exfalso; omega) | contradiction
        rw [e9]; exact ⟨rfl, rfl, RE1 _ _, RG_st hG hIO hKO _⟩
      · skip
        rw [bz_n] at c23
        refine pw_iload_n 3 rfl dX9_condition_26 rfl ?_
        refine pw_callS (d' := d - 1) (As := [_]) dX9_condition_27 ok_X9_isSeat kw_431 (by omega) rfl (Nat.le_of_ble_eq_true rfl) (p_isSeat (d - 1) (by omega) n ok _ _ (by omega)) (Nat.le_refl _) (Or.inl rfl) (fun r ok1 mem1 hq => ?_)
        obtain ⟨rfl, rfl, rfl⟩ := hq
        refine pw_if_eq 40 (by decide) dX9_condition_30 (by split <;> omega) (fun c30 => ?_) (fun c30 => ?_)
        · skip
          rw [bz_0] at c30
          refine pw_aload_n 0 rfl dX9_condition_40 rfl ?_
          refine pw_bipush dX9_condition_41 (by decide) ?_
          refine pw_callV (d' := d - 1) (As := [_]) (ci := 9) dX9_condition_43 ok_X9_refused kw_406 rfl rfl (Of.o (by assumption)) (by omega) rfl (Nat.le_of_ble_eq_true rfl) (p_refused (d - 1) (by omega) n ok _ hP9 _ (by omega)) (Nat.le_refl _) (Or.inl rfl) (fun r ok1 mem1 hq => ?_)
          obtain ⟨rfl, rfl, rfl⟩ := hq
          refine pw_iret dX9_condition_46 rfl rfl ?_
          have e9 : rCond mem c a l k = rRef mem (-3) := by
            unfold rCond; (repeat' split) <;> first | rfl | (exfalso; omega) | contradiction
          rw [e9]; exact ⟨rfl, rfl, RE1 _ _, RG_st hG hIO hKO _⟩
        · skip
          rw [bz_n] at c30
          refine pw_iload dX9_condition_33 rfl ?_
          refine pw_bipush dX9_condition_35 (by decide) ?_
          refine pw_icmp_le 47 (by decide) dX9_condition_37 (by omega) (by omega) (fun c37 => ?_) (fun c37 => ?_)
          · skip
            refine pw_iload dX9_condition_47 rfl ?_
            refine pw_iconst dX9_condition_49 ?_
            refine pw_icmp_ge 66 (by decide) dX9_condition_50 (by omega) (by omega) (fun c50 => ?_) (fun c50 => ?_)
            · skip
              obtain ⟨b, hbc⟩ : ∃ b : Nat, (b : Int) = 5 + 18 * c := ⟨(5 + 18 * c).toNat, by omega⟩
              have hC : ChUp n ok b := hCh b (by omega)
              have hok : ok 4 (c).toNat = true := by rcases (show c = 0 ∨ c = 1 ∨ c = 2 by omega) with e | e | e <;> (rw [e]; assumption)
              obtain ⟨hS, hV, hJ, hKR⟩ := hG.2.1 c b (by omega) (by omega) hbc
              have hI := hIO c (by omega) (by omega)
              have hOk := hI.ok
              obtain ⟨hR, hD, hSo⟩ := id hS
              obtain ⟨hC0, ⟨hC1, hC2, hC3, hC4, hC5, hC6, hC7⟩, hC8, ⟨hC9, hC10, hC11, hC12, hC13, hC14, hC15⟩, hC16, hC17, hb5, hb59⟩ := id hC
              have hnc := hI.2.2.1.1
              refine pw_aload_n 0 rfl dX9_condition_66 rfl ?_
              refine pw_gR 1 4 dX9_condition_67 cOk9 (by assumption) (by decide) kw_348 (by decide) rfl ?_
              refine pw_iload_n 1 rfl dX9_condition_70 rfl ?_
              refine pw_aaload (L := 3) dX9_condition_71 (by omega) (by omega) rfl rfl (by decide) (by omega) (by omega) b hbc hok ?_
              refine pw_astore dX9_condition_72 (by decide) ?_
              refine pw_aload dX9_condition_74 rfl ?_
              refine pw_gR 8 (b + 8) dX9_condition_76 cOk0 (by assumption) (by decide) kw_248 (by decide) rfl ?_
              refine pw_gI 7 7 rfl dX9_condition_79 cOk1 (by assumption) (by decide) kw_153 (by decide) (fun r79 => ?_)
              rw [hR.2.2.1] at r79 ⊢
              refine pw_bipush dX9_condition_82 (by decide) ?_
              refine pw_icmp_lt 94 (by decide) dX9_condition_84 (by omega) (by omega) (fun c84 => ?_) (fun c84 => ?_)
              · skip
                refine pw_aload_n 0 rfl dX9_condition_94 rfl ?_
                refine pw_iload_n 1 rfl dX9_condition_95 rfl ?_
                refine pw_aload dX9_condition_96 rfl ?_
                refine pw_iload_n 2 rfl dX9_condition_98 rfl ?_
                refine pw_iload_n 3 rfl dX9_condition_99 rfl ?_
                refine pw_iload dX9_condition_100 rfl ?_
                refine pw_callV (d' := d - 1) (As := [_, _, _]) (ci := 0) dX9_condition_102 ok_X0_addCondition kw_465 rfl rfl (Of.o (by assumption)) (by omega) rfl (Nat.le_of_ble_eq_true rfl) (h_addCondition (d - 1) (by omega) n ok mem b hC mem c (aAt mem c) hR hSo hV hI a l k (by omega) (by omega) (by omega) (by omega) (cIn_more hI (by omega) (by omega) (by omega) (by omega))) (Nat.le_refl _) (Or.inl rfl) (fun r ok1 mem1 hq => ?_)
                obtain ⟨rfl, rfl, hcm, hS1, hV1⟩ := hq
                have h10 : mem1 1 10 = 0 ∨ (mem1 1 10 = 123 ∧ n = 133) := by rw [hcm.1 1 (by omega)]; exact RG_10 hG
                refine pw_callV (d' := d - 1) (As := [_, _]) (ci := 9) dX9_condition_105 ok_X9_built kw_415 rfl rfl (Of.o (by assumption)) (by omega) rfl (Nat.le_of_ble_eq_true rfl) (p_built (d - 1) (by omega) n ok mem1 hU c (mem 94 c) (by omega) b hbc h10) (Nat.le_refl _) (Or.inl rfl) (fun r ok1 mem2 hq => ?_)
                obtain ⟨rfl, rfl, rfl⟩ := hq
                refine pw_iret dX9_condition_108 rfl rfl ?_
                have hB : BdX mem (rMore mem c a l k) c := Bd_more hRI (by omega) (cIn_more hI (by omega) (by omega) (by omega) (by omega)) (by omega)
                have e9 : rCond mem c a l k = rSay (rChg (rMore mem c a l k) c) (mem 94 c) := by
                  unfold rCond; (repeat' split) <;> first | rfl | (exfalso; omega) | contradiction
                rw [e9]
                have hR2 := RI_bd hRI (by omega) hB
                have hJ1 : mem1 b 13 = (rMore mem c a l k) 99 c ∧ mem1 b 14 = (rMore mem c a l k) 100 c := ⟨((hcm.2 13 (by omega) (by omega) (by omega)).trans hJ.1).trans (Eq.symm (by show rMore mem c a l k 99 _ = mem 99 _; unfold rMore; rw [wr_a _ _ _ (by omega), fiM_a _ _ _ _ (by omega), wr_a _ _ _ (by omega), wr_a _ _ _ (by omega), wr_a _ _ _ (by omega)])), ((hcm.2 14 (by omega) (by omega) (by omega)).trans hJ.2).trans (Eq.symm (by show rMore mem c a l k 100 _ = mem 100 _; unfold rMore; rw [wr_a _ _ _ (by omega), fiM_a _ _ _ _ (by omega), wr_a _ _ _ (by omega), wr_a _ _ _ (by omega), wr_a _ _ _ (by omega)]))⟩
                refine ⟨congrArg (fun z => some (vi z)) (rfl), rfl, fun a a1 a2 => ?_, RG_st (RG_bd hG hRI (by omega) hbc hB hS1 (CV_t hV1 (fun s _ _ => ⟨rfl, fun _ => by show rMore mem c a l k 92 _ = mem 92 _; unfold rMore; rw [wr_a _ _ _ (by omega), fiM_a _ _ _ _ (by omega), wr_a _ _ _ (by omega), wr_a _ _ _ (by omega), wr_a _ _ _ (by omega)]⟩)) hJ1 hcm.1) hR2.1 hR2.2.1 0⟩
                rw [wr_a _ _ _ (by omega), bltM_a _ _ _ _ (by omega) (by omega)]; exact hcm.1 a (by omega)
              · skip
                refine pw_aload_n 0 rfl dX9_condition_87 rfl ?_
                refine pw_bipush dX9_condition_88 (by decide) ?_
                refine pw_callV (d' := d - 1) (As := [_]) (ci := 9) dX9_condition_90 ok_X9_refused kw_406 rfl rfl (Of.o (by assumption)) (by omega) rfl (Nat.le_of_ble_eq_true rfl) (p_refused (d - 1) (by omega) n ok _ hP9 _ (by omega)) (Nat.le_refl _) (Or.inl rfl) (fun r ok1 mem1 hq => ?_)
                obtain ⟨rfl, rfl, rfl⟩ := hq
                refine pw_iret dX9_condition_93 rfl rfl ?_
                have e9 : rCond mem c a l k = rRef mem (-5) := by
                  unfold rCond; (repeat' split) <;> first | rfl | (exfalso; omega) | contradiction
                rw [e9]; exact ⟨rfl, rfl, RE1 _ _, RG_st hG hIO hKO _⟩
            · skip
              refine pw_aload_n 0 rfl dX9_condition_53 rfl ?_
              refine pw_aload_n 0 rfl dX9_condition_54 rfl ?_
              refine pw_gR 0 2 dX9_condition_55 cOk9 (by assumption) (by decide) kw_347 (by decide) rfl ?_
              refine pw_iconst dX9_condition_58 ?_
              refine pw_callV (d' := d - 1) (As := [_]) (ci := 5) dX9_condition_59 ok_X5_met kw_410 rfl rfl (Of.o (by assumption)) (by omega) rfl (Nat.le_of_ble_eq_true rfl) (n_met (d - 1) (by omega) n ok mem hN _ (by omega)) (Nat.le_refl _) (Or.inl rfl) (fun r ok1 mem1 hq => ?_)
              obtain ⟨rfl, rfl, rfl⟩ := hq
              refine pw_callV (d' := d - 1) (As := [_]) (ci := 9) dX9_condition_62 ok_X9_refused kw_406 rfl rfl (Of.o (by assumption)) (by omega) rfl (Nat.le_of_ble_eq_true rfl) (p_refused (d - 1) (by omega) n ok _ hP9 _ (by omega)) (Nat.le_refl _) (Or.inl rfl) (fun r ok1 mem1 hq => ?_)
              obtain ⟨rfl, rfl, rfl⟩ := hq
              refine pw_iret dX9_condition_65 rfl rfl ?_
              have e9 : rCond mem c a l k = rMet mem (4) := by
                unfold rCond; (repeat' split) <;> first | rfl | (exfalso; omega) | contradiction
              rw [e9]; exact ⟨rfl, rfl, RE_met _ _ _, RG_met hG hRI _⟩
          · skip
            refine pw_aload_n 0 rfl dX9_condition_40 rfl ?_
            refine pw_bipush dX9_condition_41 (by decide) ?_
            refine pw_callV (d' := d - 1) (As := [_]) (ci := 9) dX9_condition_43 ok_X9_refused kw_406 rfl rfl (Of.o (by assumption)) (by omega) rfl (Nat.le_of_ble_eq_true rfl) (p_refused (d - 1) (by omega) n ok _ hP9 _ (by omega)) (Nat.le_refl _) (Or.inl rfl) (fun r ok1 mem1 hq => ?_)
            obtain ⟨rfl, rfl, rfl⟩ := hq
            refine pw_iret dX9_condition_46 rfl rfl ?_
            have e9 : rCond mem c a l k = rRef mem (-3) := by
              unfold rCond; (repeat' split) <;> first | rfl | (exfalso; omega) | contradiction
            rw [e9]; exact ⟨rfl, rfl, RE1 _ _, RG_st hG hIO hKO _⟩
  · skip
    rw [bz_0] at c4
    refine pw_aload_n 0 rfl dX9_condition_7 rfl ?_
    refine pw_bipush dX9_condition_8 (by decide) ?_
    refine pw_callV (d' := d - 1) (As := [_]) (ci := 9) dX9_condition_10 ok_X9_refused kw_406 rfl rfl (Of.o (by assumption)) (by omega) rfl (Nat.le_of_ble_eq_true rfl) (p_refused (d - 1) (by omega) n ok _ hP9 _ (by omega)) (Nat.le_refl _) (Or.inl rfl) (fun r ok1 mem1 hq => ?_)
    obtain ⟨rfl, rfl, rfl⟩ := hq
    refine pw_iret dX9_condition_13 rfl rfl ?_
    have e9 : rCond mem c a l k = rRef mem (-2) := by
      unfold rCond; (repeat' split) <;> first | rfl | (exfalso; omega) | contradiction
    rw [e9]; exact ⟨rfl, rfl, RE1 _ _, RG_st hG hIO hKO _⟩
