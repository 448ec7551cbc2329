/-! ===== the class: a chest stands for the reference's ===== -/
def ChUp (n : Nat) (ok : pO) (b : Nat) : Prop := Of n ok 0 b ∧ (Ar n (b + 1) 4 ∧ Ar n (b + 2) 16 ∧ Ar n (b + 3) 16 ∧ Ar n (b + 4) 16 ∧ Ar n (b + 5) 16 ∧ Ar n (b + 6) 16 ∧ Ar n (b + 7) 16) ∧ Of n ok 1 (b + 8) ∧ (Ar n (b + 9) 40 ∧ Ar n (b + 10) 40 ∧ Ar n (b + 11) 40 ∧ Ar n (b + 12) 40 ∧ Ar n (b + 13) 40 ∧ Ar n (b + 14) 40 ∧ Ar n (b + 15) 18) ∧ Of n ok 3 (b + 16) ∧ Ar n (b + 17) 30 ∧ 5 ≤ b ∧ b ≤ 59
def hBp (A : pM) (c k a : Int) : Prop := aKind A c (aLook A c k) ≠ -1 ∧ aKind A c (aLook A c k) ≠ 5 ∧ tel (aKind A c (aLook A c k)) (aSpan A c (aLook A c k)) a < aMany A c k ∧ aTru A c k (tel (aKind A c (aLook A c k)) (aSpan A c (aLook A c k)) a) = 1
def CR (A : pM) (c : Int) (m : pM) (b : Nat) : Prop :=
  (∀ r, 0 ≤ r → r ≤ 3 → m (b + 1) r = A 89 (4 * c + r)) ∧
  (∀ s, 0 ≤ s → s ≤ 15 → m (b + 2) s = A 90 (16 * c + s) ∧ m (b + 3) s = eSp A c s ∧ (A 90 (16 * c + s) ≠ -1 → m (b + 5) s = A 93 (16 * c + s))) ∧
  m (b + 8) 7 = A 94 c ∧
  ∀ k, 0 ≤ k → k < A 94 c → m (b + 9) k = A 95 (40 * c + k) ∧ m (b + 10) k = A 96 (40 * c + k) ∧ m (b + 11) k = A 97 (40 * c + k) ∧ ∀ i : Nat, i ≤ 5 → (tb (m (b + 12) k) i = true ↔ A 98 (6 * (40 * c + k) + i) = 1)
def CD (A : pM) (c : Int) (m : pM) (b : Nat) : Prop :=
  (∀ s : Nat, s ≤ 15 → m (b + 6) s = pW A c s) ∧ m b 11 = pW A c 16 ∧ m b 12 = aParts A c 16 ∧ (m b 10 ≠ 0 ↔ ∃ s, 0 ≤ s ∧ s ≤ 15 ∧ (A 90 (16 * c + s) = 2 ∨ A 90 (16 * c + s) = 3)) ∧
  ∀ k, 0 ≤ k → k < A 94 c → ∀ a : Nat, (a : Int) < eSp A c (A 96 (40 * c + k)) → (tb (m (b + 13) k) a = true ↔ hBp A c k a)
def SO (A : pM) (c : Int) (m : pM) (b : Nat) : Prop :=
  (∀ s, -1 ≤ s → s ≤ 15 → 0 ≤ m (b + 15) (s + 1) ∧ m (b + 15) (s + 1) ≤ m (b + 15) (s + 2) ∧ m (b + 15) (s + 2) ≤ 40) ∧
  (∀ s, -1 ≤ s → s ≤ 15 → ∀ i, m (b + 15) (s + 1) ≤ i → i < m (b + 15) (s + 2) → 0 ≤ m (b + 14) i ∧ m (b + 14) i < A 94 c ∧ A 95 (40 * c + m (b + 14) i) = s) ∧
  (∀ s, -1 ≤ s → s ≤ 15 → ∀ i j, m (b + 15) (s + 1) ≤ i → i < j → j < m (b + 15) (s + 2) → m (b + 14) i < m (b + 14) j) ∧
  ∀ k, 0 ≤ k → k < A 94 c → ∃ i, m (b + 15) (A 95 (40 * c + k) + 1) ≤ i ∧ i < m (b + 15) (A 95 (40 * c + k) + 2) ∧ m (b + 14) i = k
def CS (A : pM) (c : Int) (m : pM) (b : Nat) : Prop := CR A c m b ∧ CD A c m b ∧ SO A c m b
def CV (A : pM) (c : Int) (m : pM) (b : Nat) (v : Int → Int) : Prop := ∀ s, 0 ≤ s → s ≤ 15 → m (b + 4) s = eAv A c v s
theorem CR.m {A : pM} {c : Int} {m m1 : pM} {b : Nat} (h : CR A c m b) (e : ∀ a, b ≤ a → a ≤ b + 15 → a ≠ b + 4 → a ≠ b + 7 → m1 a = m a) : CR A c m1 b := by
  unfold CR
  rw [e (b + 1) (by omega) (by omega) (by omega) (by omega), e (b + 2) (by omega) (by omega) (by omega) (by omega), e (b + 3) (by omega) (by omega) (by omega) (by omega), e (b + 5) (by omega) (by omega) (by omega) (by omega), e (b + 8) (by omega) (by omega) (by omega) (by omega), e (b + 9) (by omega) (by omega) (by omega) (by omega), e (b + 10) (by omega) (by omega) (by omega) (by omega), e (b + 11) (by omega) (by omega) (by omega) (by omega), e (b + 12) (by omega) (by omega) (by omega) (by omega)]
  exact h
theorem CD.m {A : pM} {c : Int} {m m1 : pM} {b : Nat} (h : CD A c m b) (e : ∀ a, b ≤ a → a ≤ b + 15 → a ≠ b + 4 → a ≠ b + 7 → m1 a = m a) : CD A c m1 b := by
  unfold CD
  rw [e b (by omega) (by omega) (by omega) (by omega), e (b + 6) (by omega) (by omega) (by omega) (by omega), e (b + 13) (by omega) (by omega) (by omega) (by omega)]
  exact h
theorem SO.m {A : pM} {c : Int} {m m1 : pM} {b : Nat} (h : SO A c m b) (e : ∀ a, b ≤ a → a ≤ b + 15 → a ≠ b + 4 → a ≠ b + 7 → m1 a = m a) : SO A c m1 b := by
  unfold SO
  rw [e (b + 14) (by omega) (by omega) (by omega) (by omega), e (b + 15) (by omega) (by omega) (by omega) (by omega)]
  exact h
theorem CS.m {A : pM} {c : Int} {m m1 : pM} {b : Nat} (h : CS A c m b) (e : ∀ a, b ≤ a → a ≤ b + 15 → a ≠ b + 4 → a ≠ b + 7 → m1 a = m a) : CS A c m1 b := ⟨h.1.m e, h.2.1.m e, h.2.2.m e⟩
theorem CV.m {A : pM} {c : Int} {m m1 : pM} {b : Nat} {v : Int → Int} (h : CV A c m b v) (e : m1 (b + 4) = m (b + 4)) : CV A c m1 b v := fun s s1 s2 => by rw [e]; exact h s s1 s2
theorem CS.ev {A : pM} {c : Int} {m : pM} {b : Nat} (h : CS A c m b) (hb : 5 ≤ b) (l : pEv) : CS A c (nEv m l) b := h.m (fun a h1 _ _ _ => nEv_a _ _ _ (by omega) (by omega))
theorem CV.ev {A : pM} {c : Int} {m : pM} {b : Nat} {v : Int → Int} (h : CV A c m b v) (hb : 5 ≤ b) (l : pEv) : CV A c (nEv m l) b v := h.m (nEv_a _ _ _ (by omega) (by omega))
theorem CV.k {A : pM} {c : Int} {m : pM} {b : Nat} {v w : Int → Int} (h : CV A c m b v) (e : vEk A c v w) : CV A c m b w := fun s s1 s2 => by
  rw [h s s1 s2]; unfold eAv
  by_cases q : aKind A c s = -1
  · rw [if_pos q, if_pos q]
  · rw [if_neg q, if_neg q, e s s1 s2 q]
theorem cIn.in {A : pM} {c : Int} (h : cIn A c) {s : Int} (h1 : 0 ≤ s) (h2 : s ≤ 15) (hk : aKind A c s ≠ -1) : aComes A c s = 0 := by
  have hr := h.1 (s / 4) (by omega) (by omega)
  rcases h.2.1 s h1 h2 with q | q
  · exact absurd q hk
  · have e1 : aRow A c (s / 4) = A 89 (4 * c + s / 4) := rfl
    unfold aComes
    rw [if_neg (by rw [e1]; omega), if_neg (by rw [e1]; omega), if_neg hk]
theorem hIs_b {A : pM} {c : Int} (hI : cIn A c) {v : Int → Int} (hv : pOkv A c v) {k : Int} (h1 : 0 ≤ k) (h2 : k < A 94 c) : hIs A c v k = 1 ↔ hBp A c k (v (aLook A c k)) := by
  have hk := hI.2.2.1.2 k h1 h2
  have hl : 0 ≤ aLook A c k ∧ aLook A c k ≤ 15 := hk.2.1
  have hm : -1 ≤ aMany A c k := hk.2.2.1.1
  have e : (hMet A c v k = 0 ∧ aTru A c k (hTel A c v k) = 1) ↔ hBp A c k (v (aLook A c k)) := by
    constructor
    · intro z
      have z1 := z.1
      unfold hMet at z1
      by_cases q : aComes A c (aLook A c k) ≠ 0
      · rw [if_pos q] at z1; exact absurd z1 q
      · rw [if_neg q] at z1
        have q0 : aComes A c (aLook A c k) = 0 := by omega
        by_cases q2 : aKind A c (aLook A c k) = 5
        · rw [if_pos q2] at z1; omega
        · rw [if_neg q2] at z1
          by_cases q3 : aMany A c k = -1
          · rw [if_pos q3] at z1; omega
          · rw [if_neg q3] at z1
            by_cases q4 : aMany A c k ≤ hTel A c v k
            · rw [if_pos q4] at z1; omega
            · exact ⟨aComes_kind q0, q2, by unfold hTel at q4; omega, z.2⟩
    · intro z
      have q0 := hI.in hl.1 hl.2 z.1
      have hp := hI.ok.1.2.2 _ hl.1 hl.2 z.1
      have ht := tel_ran (k := aKind A c (aLook A c k)) hp (hv _ hl.1 hl.2 z.1)
      refine ⟨?_, z.2.2.2⟩
      have z3 := z.2.2.1
      unfold hMet
      rw [if_neg (fun y => y q0), if_neg z.2.1, if_neg (by omega), if_neg (by unfold hTel; omega)]
  unfold hIs
  by_cases q : hMet A c v k = 0 ∧ aTru A c k (hTel A c v k) = 1
  · rw [if_pos q]; exact ⟨fun _ => e.mp q, fun _ => rfl⟩
  · rw [if_neg q]; exact ⟨fun z => absurd z (by omega), fun z => absurd (e.mpr z) q⟩
theorem fGo_skip (A : pM) (c : Int) (v : Int → Int) (s : Int) (N : Nat) (j : Nat) : ∀ k : Nat, k + j ≤ N → (∀ i : Int, k ≤ i → i < k + j → aSeat A c i ≠ s) → fGo A c v s (N - k) k = fGo A c v s (N - (k + j)) (k + j : Nat) := by
  induction j with
  | zero => intro k _ _; rfl
  | succ j ih =>
    intro k h1 h2
    rw [ih k (by omega) (fun i i1 i2 => h2 i i1 (by omega)), show N - (k + j) = (N - (k + (j + 1))) + 1 by omega, fGo_succ, if_neg (h2 _ (by omega) (by omega))]
    rfl
theorem anyO_iff (A : pM) (c : Int) (k : Nat) : anyO A c k ≠ 0 ↔ ∃ j : Int, 0 ≤ j ∧ j < k ∧ aSeat A c j = -1 := by
  induction k with
  | zero => exact ⟨fun h => absurd rfl h, fun ⟨j, h1, h2, _⟩ => absurd h2 (by omega)⟩
  | succ k ih =>
    unfold anyO
    by_cases q : anyO A c k ≠ 0 ∨ aSeat A c k = -1
    · rw [if_pos q]
      refine ⟨fun _ => ?_, fun _ => by omega⟩
      rcases q with q | q
      · obtain ⟨j, h1, h2, h3⟩ := ih.mp q
        exact ⟨j, h1, by omega, h3⟩
      · exact ⟨k, by omega, by omega, q⟩
    · rw [if_neg q]
      refine ⟨fun z => absurd rfl z, fun ⟨j, h1, h2, h3⟩ => ?_⟩
      exfalso
      by_cases w : j = k
      · subst w; exact q (Or.inr h3)
      · exact q (Or.inl (ih.mpr ⟨j, h1, by omega, h3⟩))
def jRes (A : pM) (c : Int) (v : Int → Int) (k : Int) : Int := if hMet A c v k ≠ 0 then - hMet A c v k else hIs A c v k
def rowF (A : pM) (c s : Int) : Int := if A 89 (4 * c + s / 4) = -1 then 1 else if A 89 (4 * c + s / 4) ≤ s % 4 then 2 else 0
set_option maxHeartbeats 4000000 in
set_option maxRecDepth 100000 in
theorem h_findingAt (d : Nat) (hd : 0 ≤ d) (n : Nat) (ok : pO) (mem : pM) (hN : NUp n ok) (b : Nat) (hC : ChUp n ok b) (A : pM) (c : Int) (v : Int → Int) (hI : cIn A c) (hS : CS A c mem b) (hV : CV A c mem b v) (hv : pOkv A c v) (s : Int) (hs : 0 ≤ s ∧ s ≤ 15) (w : Int) (hw : w = 0 ∨ w = 1) : PM mi_X0_findingAt d [vr b, vi s, vi w] n ok mem n (fun r ok' mem' => r = some (vi (if w = 0 then rowF A c s else aComes A c s)) ∧ ok = ok' ∧ mem = mem') := by
  obtain ⟨hN5, hN3⟩ := id hN
  obtain ⟨hC0, ⟨hC1, hC2, hC3, hC4, hC5, hC6, hC7⟩, hC8, ⟨hC9, hC10, hC11, hC12, hC13, hC14, hC15⟩, hC16, hC17, hb5, hb59⟩ := id hC
  obtain ⟨hR, hD, hSo⟩ := id hS
  have hOk := hI.ok
  have e1 := hR.1 (s / 4) (by omega) (by omega)
  have e2 := (hR.2.1 s (by omega) (by omega)).1
  have e3 : aRow A c (s / 4) = A 89 (4 * c + s / 4) := rfl
  have e4 : aKind A c s = A 90 (16 * c + s) := rfl
  have hr9 := hI.1 (s / 4) (by omega) (by omega)
  refine PM.of (by decide) (by decide) (Nat.le_refl _) (Nat.le_of_ble_eq_true rfl) ?_
  refine pw_aload_n 0 rfl dX0_findingAt_0 rfl ?_
  refine pw_gR 1 (b + 1) dX0_findingAt_1 cOk0 (by assumption) (by decide) kw_228 (by decide) rfl ?_
  refine pw_iload_n 1 rfl dX0_findingAt_4 rfl ?_
  refine pw_iconst dX0_findingAt_5 ?_
  refine pw_idiv dX0_findingAt_6 (by omega) (by omega) ?_
  refine pw_iaload dX0_findingAt_7 (by assumption) (by omega) (by omega) (fun r7 => ?_)
  rw [e1] at r7 ⊢
  refine pw_istore_n 3 rfl dX0_findingAt_8 (by decide) ?_
  refine pw_iload_n 3 rfl dX0_findingAt_9 rfl ?_
  refine pw_iconst dX0_findingAt_10 ?_
  refine pw_icmp_ne 16 (by decide) dX0_findingAt_11 (by omega) (by omega) (fun c11 => ?_) (fun c11 => ?_)
  · skip
    refine pw_iload_n 1 rfl dX0_findingAt_16 rfl ?_
    refine pw_iconst dX0_findingAt_17 ?_
    refine pw_irem dX0_findingAt_18 (by omega) (by omega) ?_
    refine pw_iload_n 3 rfl dX0_findingAt_19 rfl ?_
    refine pw_icmp_lt 25 (by decide) dX0_findingAt_20 (by omega) (by omega) (fun c20 => ?_) (fun c20 => ?_)
    · skip
      refine pw_iload_n 2 rfl dX0_findingAt_25 rfl ?_
      refine pw_if_eq 43 (by decide) dX0_findingAt_26 (by omega) (fun c26 => ?_) (fun c26 => ?_)
      · skip
        refine pw_iconst dX0_findingAt_43 ?_
        refine pw_iret dX0_findingAt_44 rfl rfl ?_
        refine ⟨congrArg (fun z => some (vi z)) ?_, rfl, rfl⟩
        unfold rowF aComes; rw [e3, e4]; (repeat' split) <;> omega
      · skip
        refine pw_aload_n 0 rfl dX0_findingAt_29 rfl ?_
        refine pw_gR 2 (b + 2) dX0_findingAt_30 cOk0 (by assumption) (by decide) kw_230 (by decide) rfl ?_
        refine pw_iload_n 1 rfl dX0_findingAt_33 rfl ?_
        refine pw_iaload dX0_findingAt_34 (by assumption) (by omega) (by omega) (fun r34 => ?_)
        rw [e2] at r34 ⊢
        refine pw_iconst dX0_findingAt_35 ?_
        refine pw_icmp_ne 43 (by decide) dX0_findingAt_36 (by omega) (by omega) (fun c36 => ?_) (fun c36 => ?_)
        · skip
          refine pw_iconst dX0_findingAt_43 ?_
          refine pw_iret dX0_findingAt_44 rfl rfl ?_
          refine ⟨congrArg (fun z => some (vi z)) ?_, rfl, rfl⟩
          unfold rowF aComes; rw [e3, e4]; (repeat' split) <;> omega
        · skip
          refine pw_iconst dX0_findingAt_39 ?_
          refine pw_goto 44 (by decide) dX0_findingAt_40 ?_
          refine pw_iret dX0_findingAt_44 rfl rfl ?_
          refine ⟨congrArg (fun z => some (vi z)) ?_, rfl, rfl⟩
          unfold rowF aComes; rw [e3, e4]; (repeat' split) <;> omega
    · skip
      refine pw_iconst dX0_findingAt_23 ?_
      refine pw_iret dX0_findingAt_24 rfl rfl ?_
      refine ⟨congrArg (fun z => some (vi z)) ?_, rfl, rfl⟩
      unfold rowF aComes; rw [e3, e4]; (repeat' split) <;> omega
  · skip
    refine pw_iconst dX0_findingAt_14 ?_
    refine pw_iret dX0_findingAt_15 rfl rfl ?_
    refine ⟨congrArg (fun z => some (vi z)) ?_, rfl, rfl⟩
    unfold rowF aComes; rw [e3, e4]; (repeat' split) <;> omega
set_option maxHeartbeats 4000000 in
set_option maxRecDepth 100000 in
theorem h_number (d : Nat) (hd : 0 ≤ d) (n : Nat) (ok : pO) (mem : pM) (hN : NUp n ok) (b : Nat) (hC : ChUp n ok b) (A : pM) (c : Int) (v : Int → Int) (hI : cIn A c) (hS : CS A c mem b) (hV : CV A c mem b v) (hv : pOkv A c v) : PM mi_X0_number d [vr b] n ok mem n (fun r ok' mem' => r = some (vi (numV A c v 16)) ∧ ok = ok' ∧ mem = mem') := by
  obtain ⟨hN5, hN3⟩ := id hN
  obtain ⟨hC0, ⟨hC1, hC2, hC3, hC4, hC5, hC6, hC7⟩, hC8, ⟨hC9, hC10, hC11, hC12, hC13, hC14, hC15⟩, hC16, hC17, hb5, hb59⟩ := id hC
  obtain ⟨hR, hD, hSo⟩ := id hS
  have hOk := hI.ok
  refine PM.of (by decide) (by decide) (Nat.le_refl _) (Nat.le_of_ble_eq_true rfl) ?_
  refine pw_iconst dX0_number_0 ?_
  refine pw_istore_n 1 rfl dX0_number_1 (by decide) ?_
  refine pw_iconst dX0_number_2 ?_
  refine pw_istore_n 2 rfl dX0_number_3 (by decide) ?_
  have lp4 : ∀ (kz : Nat) (i : Nat) (x : Int), 16 - (i : Int) < (kz : Int) → (i ≤ 16) → (x = numV A c v i) → PW mi_X0_number d n n (fun r ok' mem' => r = some (vi (numV A c v 16)) ∧ ok = ok' ∧ mem = mem') 4 [(0, vr b), (1, vi x), (2, vi (i : Int))] [] n ok mem := by
    intro kz
    induction kz with
    | zero =>
      intro i x hk h1 h2
      exact absurd hk (by omega)
    | succ kz ih =>
      intro i x hk h1 h2
      refine pw_iload_n 2 rfl dX0_number_4 rfl ?_
      refine pw_bipush dX0_number_5 (by decide) ?_
      refine pw_icmp_ge 32 (by decide) dX0_number_7 (by omega) (by omega) (fun c7 => ?_) (fun c7 => ?_)
      · skip
        refine pw_iload_n 1 rfl dX0_number_32 rfl ?_
        refine pw_iret dX0_number_33 rfl rfl ?_
        have e9 : i = 16 := by omega
        subst e9
        rw [h2]; exact ⟨rfl, rfl, rfl⟩
      · skip
        have e4 := hV i (by omega) (by omega)
        have e6 := hD.1 i (by omega)
        refine pw_iload_n 1 rfl dX0_number_10 rfl ?_
        refine pw_aload_n 0 rfl dX0_number_11 rfl ?_
        refine pw_gR 4 (b + 4) dX0_number_12 cOk0 (by assumption) (by decide) kw_238 (by decide) rfl ?_
        refine pw_iload_n 2 rfl dX0_number_15 rfl ?_
        refine pw_iaload dX0_number_16 (by assumption) (by omega) (by omega) (fun r16 => ?_)
        try simp (disch := omega) only [wr_s, wr_a, wr_k] at r16 ⊢
        rw [e4] at r16 ⊢
        refine pw_aload_n 0 rfl dX0_number_17 rfl ?_
        refine pw_gR 6 (b + 6) dX0_number_18 cOk0 (by assumption) (by decide) kw_244 (by decide) rfl ?_
        refine pw_iload_n 2 rfl dX0_number_21 rfl ?_
        refine pw_iaload dX0_number_22 (by assumption) (by omega) (by omega) (fun r22 => ?_)
        try simp (disch := omega) only [wr_s, wr_a, wr_k] at r22 ⊢
        rw [e6] at r22 ⊢
        refine pw_imul dX0_number_23 ?_
        refine pw_iadd dX0_number_24 ?_
        refine pw_istore_n 1 rfl dX0_number_25 (by decide) ?_
        refine pw_iinc dX0_number_26 rfl (by decide) ?_
        refine pw_goto 4 (by decide) dX0_number_29 ?_
        exact pw_locs _ rfl (ih (i + 1) _ (by omega) (by omega) (by show _ = numV A c v i + pW A c i * eAv A c v i; rw [h2, Int.mul_comm]))
  exact pw_locs _ rfl (lp4 17 0 0 (by omega) (by omega) rfl)
def stU (A : pM) (c : Int) (v : Int → Int) (x : Int) (i : Nat) : Int → Int := fun s => if s < i then setV A c v x s else v s
theorem lfN_le {A : pM} {c x : Int} (h : pOk A c) (hx : 0 ≤ x ∧ x ≤ 2147483647) (k : Nat) (hk : k ≤ 16) : lfN A c x k ≤ 2147483647 := by
  have e : 0 ≤ lfN A c x k ∧ lfN A c x k ≤ x := by
    induction k with
    | zero => exact ⟨hx.1, Int.le_refl _⟩
    | succ k ih =>
      have i := ih (by omega)
      have s := eSp_ran h k (by omega) (by omega)
      show 0 ≤ lfN A c x k / eSp A c k ∧ lfN A c x k / eSp A c k ≤ x
      exact ⟨Int.ediv_nonneg i.1 (by omega), Int.le_trans (Int.ediv_le_self _ i.1) i.2⟩
  omega
set_option maxHeartbeats 4000000 in
set_option maxRecDepth 100000 in
theorem h_standAt (d : Nat) (hd : 0 ≤ d) (n : Nat) (ok : pO) (mem : pM) (hN : NUp n ok) (b : Nat) (hC : ChUp n ok b) (A : pM) (c : Int) (v : Int → Int) (hI : cIn A c) (hS : CS A c mem b) (hV : CV A c mem b v) (hv : pOkv A c v) (x : Int) (hx : 0 ≤ x ∧ x ≤ 2147483647) : PM mi_X0_standAt d [vr b, vi x] n ok mem n (fun r ok' mem' => r = none ∧ ok = ok' ∧ FrW (b + 4) mem mem' ∧ CV A c mem' b (setV A c v x)) := by
  obtain ⟨hN5, hN3⟩ := id hN
  obtain ⟨hC0, ⟨hC1, hC2, hC3, hC4, hC5, hC6, hC7⟩, hC8, ⟨hC9, hC10, hC11, hC12, hC13, hC14, hC15⟩, hC16, hC17, hb5, hb59⟩ := id hC
  obtain ⟨hR, hD, hSo⟩ := id hS
  have hOk := hI.ok
  refine PM.of (by decide) (by decide) (Nat.le_refl _) (Nat.le_of_ble_eq_true rfl) ?_
  refine pw_iload_n 1 rfl dX0_standAt_0 rfl ?_
  refine pw_istore_n 2 rfl dX0_standAt_1 (by decide) ?_
  refine pw_iconst dX0_standAt_2 ?_
  refine pw_istore_n 3 rfl dX0_standAt_3 (by decide) ?_
  have lp4 : ∀ (kz : Nat) (i : Nat) (y : Int) (m1 : pM), 16 - (i : Int) < (kz : Int) → (i ≤ 16) → (y = lfN A c x i) → (0 ≤ y) → (FrW (b + 4) mem m1) → (CV A c m1 b (stU A c v x i)) → PW mi_X0_standAt d n n (fun r ok' mem' => r = none ∧ ok = ok' ∧ FrW (b + 4) mem mem' ∧ CV A c mem' b (setV A c v x)) 4 [(0, vr b), (1, vi x), (2, vi y), (3, vi (i : Int))] [] n ok m1 := by
    intro kz
    induction kz with
    | zero =>
      intro i y m1 hk h1 h2 h3 hF hW
      exact absurd hk (by omega)
    | succ kz ih =>
      intro i y m1 hk h1 h2 h3 hF hW
      have g3 : m1 (b + 3) = mem (b + 3) := hF (b + 3) (by omega)
      refine pw_iload_n 3 rfl dX0_standAt_4 rfl ?_
      refine pw_bipush dX0_standAt_5 (by decide) ?_
      refine pw_icmp_ge 49 (by decide) dX0_standAt_7 (by omega) (by omega) (fun c7 => ?_) (fun c7 => ?_)
      · skip
        refine pw_vret dX0_standAt_49 rfl rfl ?_
        have e9 : i = 16 := by omega
        subst e9
        refine ⟨rfl, rfl, hF, fun s s1 s2 => ?_⟩
        rw [hW s s1 s2]; unfold eAv stU; rw [if_pos (show s < ((16 : Nat) : Int) by omega)]
      · skip
        have e3 := (hR.2.1 i (by omega) (by omega)).2.1
        have hsr := eSp_ran hOk.1.2.2 i (by omega) (by omega)
        have hyb : y ≤ 2147483647 := by rw [h2]; exact lfN_le hOk.1.2.2 hx i (by omega)
        refine pw_aload_n 0 rfl dX0_standAt_10 rfl ?_
        refine pw_gR 3 (b + 3) dX0_standAt_11 cOk0 (by assumption) (by decide) kw_234 (by decide) rfl ?_
        refine pw_iload_n 3 rfl dX0_standAt_14 rfl ?_
        refine pw_iaload dX0_standAt_15 (by assumption) (by omega) (by omega) (fun r15 => ?_)
        try simp (disch := omega) only [wr_s, wr_a, wr_k] at r15 ⊢
        rw [g3, e3] at r15 ⊢
        refine pw_iconst dX0_standAt_16 ?_
        refine pw_icmp_le 43 (by decide) dX0_standAt_17 (by omega) (by omega) (fun c17 => ?_) (fun c17 => ?_)
        · skip
          refine pw_iinc dX0_standAt_43 rfl (by decide) ?_
          refine pw_goto 4 (by decide) dX0_standAt_46 ?_
          have hy : y / eSp A c i = y := by rw [show eSp A c i = 1 by omega]; exact Int.ediv_one y
          have hW2 : CV A c m1 b (stU A c v x (i + 1)) := fun s s1 s2 => by
            rw [hW s s1 s2]; unfold eAv stU
            by_cases q : aKind A c s = -1
            · rw [if_pos q, if_pos q]
            · rw [if_neg q, if_neg q]
              by_cases w : s = i
              · rw [if_neg (by omega), if_pos (by omega)]
                unfold setV
                have q2 : eSp A c s = aSpan A c s := by unfold eSp; rw [if_neg q]
                have q3 := hv s s1 s2 q
                rw [if_neg q, show aSpan A c s = 1 by rw [← q2, w]; omega, Int.emod_one]
                rw [show aSpan A c s = 1 by rw [← q2, w]; omega] at q3
                omega
              · by_cases w2 : s < i
                · rw [if_pos w2, if_pos (by omega)]
                · rw [if_neg w2, if_neg (by omega)]
          exact pw_locs _ rfl (ih (i + 1) y m1 (by omega) (by omega) (by show _ = lfN A c x i / eSp A c i; rw [← h2, hy]) h3 hF hW2)
        · skip
          refine pw_aload_n 0 rfl dX0_standAt_20 rfl ?_
          refine pw_gR 4 (b + 4) dX0_standAt_21 cOk0 (by assumption) (by decide) kw_238 (by decide) rfl ?_
          refine pw_iload_n 3 rfl dX0_standAt_24 rfl ?_
          refine pw_iload_n 2 rfl dX0_standAt_25 rfl ?_
          refine pw_aload_n 0 rfl dX0_standAt_26 rfl ?_
          refine pw_gR 3 (b + 3) dX0_standAt_27 cOk0 (by assumption) (by decide) kw_234 (by decide) rfl ?_
          refine pw_iload_n 3 rfl dX0_standAt_30 rfl ?_
          refine pw_iaload dX0_standAt_31 (by assumption) (by omega) (by omega) (fun r31 => ?_)
          try simp (disch := omega) only [wr_s, wr_a, wr_k] at r31 ⊢
          rw [g3, e3] at r31 ⊢
          refine pw_irem dX0_standAt_32 (by omega) (by omega) ?_
          refine pw_iastore dX0_standAt_33 (by assumption) (by omega) (by omega) (by have a1 := Int.emod_nonneg y (show eSp A c i ≠ 0 by omega); have a2 := Int.emod_lt_of_pos y (show 0 < eSp A c i by omega); omega) ?_
          refine pw_iload_n 2 rfl dX0_standAt_34 rfl ?_
          refine pw_aload_n 0 rfl dX0_standAt_35 rfl ?_
          refine pw_gR 3 (b + 3) dX0_standAt_36 cOk0 (by assumption) (by decide) kw_234 (by decide) rfl ?_
          refine pw_iload_n 3 rfl dX0_standAt_39 rfl ?_
          refine pw_iaload dX0_standAt_40 (by assumption) (by omega) (by omega) (fun r40 => ?_)
          rw [wr_a _ _ _ (by omega), g3, e3] at r40 ⊢
          refine pw_idiv dX0_standAt_41 (by omega) (by omega) ?_
          refine pw_istore_n 2 rfl dX0_standAt_42 (by decide) ?_
          refine pw_iinc dX0_standAt_43 rfl (by decide) ?_
          refine pw_goto 4 (by decide) dX0_standAt_46 ?_
          have hkk : aKind A c i ≠ -1 := fun z => by
            have e8 : eSp A c i = 1 := by unfold eSp; rw [if_pos z]
            omega
          have hsp : eSp A c i = aSpan A c i := by unfold eSp; rw [if_neg hkk]
          have hW2 : CV A c (wr m1 (b + 4) (i : Int) (y % eSp A c i)) b (stU A c v x (i + 1)) := fun s s1 s2 => by
            by_cases w : s = i
            · rw [w, wr_s]; unfold eAv stU
              rw [if_neg hkk, if_pos (by omega)]
              unfold setV
              rw [if_neg hkk, hsp, h2]; rfl
            · rw [wr_k _ _ _ _ w, hW s s1 s2]; unfold eAv stU
              by_cases q : aKind A c s = -1
              · rw [if_pos q, if_pos q]
              · rw [if_neg q, if_neg q]
                by_cases w2 : s < i
                · rw [if_pos w2, if_pos (by omega)]
                · rw [if_neg w2, if_neg (by omega)]
          exact pw_locs _ rfl (ih (i + 1) _ _ (by omega) (by omega) (by show _ = lfN A c x i / eSp A c i; rw [← h2]) (Int.ediv_nonneg h3 (by omega)) (hF.w _ _) hW2)
  exact pw_locs _ rfl (lp4 17 0 x mem (by omega) (by omega) rfl (by omega) (fun _ _ => rfl) (fun s s1 s2 => by rw [hV s s1 s2]; unfold eAv stU; rw [if_neg (show ¬ s < ((0 : Nat) : Int) by omega)]))
set_option maxHeartbeats 4000000 in
set_option maxRecDepth 100000 in
theorem q_truthAt (d : Nat) (hd : 0 ≤ d) (n : Nat) (ok : pO) (mem : pM) (b : Nat) (hC : ChUp n ok b) (k i : Int) (hk : 0 ≤ k ∧ k < 40) (hi : 0 ≤ i ∧ i ≤ 31) : PM mi_X1_truthAt d [vr (b + 8), vi k, vi i] n ok mem n (fun r ok' mem' => r = some (vi (if tb (mem (b + 12) k) i.toNat then 1 else 0)) ∧ ok = ok' ∧ mem = mem') := by
  obtain ⟨hC0, ⟨hC1, hC2, hC3, hC4, hC5, hC6, hC7⟩, hC8, ⟨hC9, hC10, hC11, hC12, hC13, hC14, hC15⟩, hC16, hC17, hb5, hb59⟩ := id hC
  refine PM.of (by decide) (by decide) (Nat.le_refl _) (Nat.le_of_ble_eq_true rfl) ?_
  refine pw_aload_n 0 rfl dX1_truthAt_0 rfl ?_
  refine pw_gR 3 (b + 12) dX1_truthAt_1 cOk1 (by assumption) (by decide) kw_143 (by decide) rfl ?_
  refine pw_iload_n 1 rfl dX1_truthAt_4 rfl ?_
  refine pw_iaload dX1_truthAt_5 (by assumption) (by omega) (by omega) (fun r5 => ?_)
  refine pw_iload_n 2 rfl dX1_truthAt_6 rfl ?_
  refine pw_ishr dX1_truthAt_7 ?_
  refine pw_iconst dX1_truthAt_8 ?_
  refine pw_iand dX1_truthAt_9 ?_
  refine pw_iret dX1_truthAt_10 rfl rfl ?_
  rw [bit_at _ _ hi]; exact ⟨rfl, rfl, rfl⟩
def ftF (z i k : Int) : Int := if z = -1 then 1 else if i < 0 ∨ k < 0 ∨ z < k ∨ z - k < i then 2 else 0
set_option maxHeartbeats 4000000 in
set_option maxRecDepth 100000 in
theorem q_finding (d : Nat) (hd : 0 ≤ d) (n : Nat) (ok : pO) (mem : pM) (b : Nat) (hC : ChUp n ok b) (k i w : Int) (hk : 0 ≤ k ∧ k < 40) (hi : -2147483648 ≤ i ∧ i ≤ 2147483647) (hw : -2147483648 ≤ w ∧ w ≤ 2147483647) (hz : -1 ≤ mem (b + 11) k ∧ mem (b + 11) k ≤ 6) : PM mi_X1_findingOfTruths d [vr (b + 8), vi k, vi i, vi w] n ok mem n (fun r ok' mem' => r = some (vi (ftF (mem (b + 11) k) i w)) ∧ ok = ok' ∧ mem = mem') := by
  obtain ⟨hC0, ⟨hC1, hC2, hC3, hC4, hC5, hC6, hC7⟩, hC8, ⟨hC9, hC10, hC11, hC12, hC13, hC14, hC15⟩, hC16, hC17, hb5, hb59⟩ := id hC
  refine PM.of (by decide) (by decide) (Nat.le_refl _) (Nat.le_of_ble_eq_true rfl) ?_
  refine pw_aload_n 0 rfl dX1_findingOfTruths_0 rfl ?_
  refine pw_gR 2 (b + 11) dX1_findingOfTruths_1 cOk1 (by assumption) (by decide) kw_139 (by decide) rfl ?_
  refine pw_iload_n 1 rfl dX1_findingOfTruths_4 rfl ?_
  refine pw_iaload dX1_findingOfTruths_5 (by assumption) (by omega) (by omega) (fun r5 => ?_)
  refine pw_iconst dX1_findingOfTruths_6 ?_
  refine pw_icmp_ne 12 (by decide) dX1_findingOfTruths_7 (by omega) (by omega) (fun c7 => ?_) (fun c7 => ?_)
  · skip
    refine pw_iload_n 2 rfl dX1_findingOfTruths_12 rfl ?_
    refine pw_if_lt 42 (by decide) dX1_findingOfTruths_13 (by omega) (fun c13 => ?_) (fun c13 => ?_)
    · skip
      refine pw_iconst dX1_findingOfTruths_42 ?_
      refine pw_goto 47 (by decide) dX1_findingOfTruths_43 ?_
      refine pw_iret dX1_findingOfTruths_47 rfl rfl ?_
      refine ⟨congrArg (fun z => some (vi z)) ?_, rfl, rfl⟩
      unfold ftF; (repeat' split) <;> first | rfl | omega
    · skip
      refine pw_iload_n 3 rfl dX1_findingOfTruths_16 rfl ?_
      refine pw_if_lt 42 (by decide) dX1_findingOfTruths_17 (by omega) (fun c17 => ?_) (fun c17 => ?_)
      · skip
        refine pw_iconst dX1_findingOfTruths_42 ?_
        refine pw_goto 47 (by decide) dX1_findingOfTruths_43 ?_
        refine pw_iret dX1_findingOfTruths_47 rfl rfl ?_
        refine ⟨congrArg (fun z => some (vi z)) ?_, rfl, rfl⟩
        unfold ftF; (repeat' split) <;> first | rfl | omega
      · skip
        refine pw_iload_n 3 rfl dX1_findingOfTruths_20 rfl ?_
        refine pw_aload_n 0 rfl dX1_findingOfTruths_21 rfl ?_
        refine pw_gR 2 (b + 11) dX1_findingOfTruths_22 cOk1 (by assumption) (by decide) kw_139 (by decide) rfl ?_
        refine pw_iload_n 1 rfl dX1_findingOfTruths_25 rfl ?_
        refine pw_iaload dX1_findingOfTruths_26 (by assumption) (by omega) (by omega) (fun r26 => ?_)
        refine pw_icmp_gt 42 (by decide) dX1_findingOfTruths_27 (by omega) (by omega) (fun c27 => ?_) (fun c27 => ?_)
        · skip
          refine pw_iconst dX1_findingOfTruths_42 ?_
          refine pw_goto 47 (by decide) dX1_findingOfTruths_43 ?_
          refine pw_iret dX1_findingOfTruths_47 rfl rfl ?_
          refine ⟨congrArg (fun z => some (vi z)) ?_, rfl, rfl⟩
          unfold ftF; (repeat' split) <;> first | rfl | omega
        · skip
          refine pw_iload_n 2 rfl dX1_findingOfTruths_30 rfl ?_
          refine pw_aload_n 0 rfl dX1_findingOfTruths_31 rfl ?_
          refine pw_gR 2 (b + 11) dX1_findingOfTruths_32 cOk1 (by assumption) (by decide) kw_139 (by decide) rfl ?_
          refine pw_iload_n 1 rfl dX1_findingOfTruths_35 rfl ?_
          refine pw_iaload dX1_findingOfTruths_36 (by assumption) (by omega) (by omega) (fun r36 => ?_)
          refine pw_iload_n 3 rfl dX1_findingOfTruths_37 rfl ?_
          refine pw_isub dX1_findingOfTruths_38 ?_
          refine pw_icmp_le 46 (by decide) dX1_findingOfTruths_39 (by omega) (by omega) (fun c39 => ?_) (fun c39 => ?_)
          · skip
            refine pw_iconst dX1_findingOfTruths_46 ?_
            refine pw_iret dX1_findingOfTruths_47 rfl rfl ?_
            refine ⟨congrArg (fun z => some (vi z)) ?_, rfl, rfl⟩
            unfold ftF; (repeat' split) <;> first | rfl | omega
          · skip
            refine pw_iconst dX1_findingOfTruths_42 ?_
            refine pw_goto 47 (by decide) dX1_findingOfTruths_43 ?_
            refine pw_iret dX1_findingOfTruths_47 rfl rfl ?_
            refine ⟨congrArg (fun z => some (vi z)) ?_, rfl, rfl⟩
            unfold ftF; (repeat' split) <;> first | rfl | omega
  · skip
    refine pw_iconst dX1_findingOfTruths_10 ?_
    refine pw_iret dX1_findingOfTruths_11 rfl rfl ?_
    refine ⟨congrArg (fun z => some (vi z)) ?_, rfl, rfl⟩
    unfold ftF; (repeat' split) <;> first | rfl | omega
set_option maxHeartbeats 4000000 in
set_option maxRecDepth 100000 in
theorem q_anyOf (d : Nat) (hd : 0 ≤ d) (n : Nat) (ok : pO) (mem : pM) (b : Nat) (hC : ChUp n ok b) (s : Int) (hs : -1 ≤ s ∧ s ≤ 15) : PM mi_X1_anyOf d [vr (b + 8), vi s] n ok mem n (fun r ok' mem' => r = some (vi (if mem (b + 15) (s + 1) < mem (b + 15) (s + 2) then 1 else 0)) ∧ ok = ok' ∧ mem = mem') := by
  obtain ⟨hC0, ⟨hC1, hC2, hC3, hC4, hC5, hC6, hC7⟩, hC8, ⟨hC9, hC10, hC11, hC12, hC13, hC14, hC15⟩, hC16, hC17, hb5, hb59⟩ := id hC
  refine PM.of (by decide) (by decide) (Nat.le_refl _) (Nat.le_of_ble_eq_true rfl) ?_
  refine pw_aload_n 0 rfl dX1_anyOf_0 rfl ?_
  refine pw_gR 6 (b + 15) dX1_anyOf_1 cOk1 (by assumption) (by decide) kw_149 (by decide) rfl ?_
  refine pw_iload_n 1 rfl dX1_anyOf_4 rfl ?_
  refine pw_iconst dX1_anyOf_5 ?_
  refine pw_iadd dX1_anyOf_6 ?_
  refine pw_iaload dX1_anyOf_7 (by assumption) (by omega) (by omega) (fun r7 => ?_)
  refine pw_aload_n 0 rfl dX1_anyOf_8 rfl ?_
  refine pw_gR 6 (b + 15) dX1_anyOf_9 cOk1 (by assumption) (by decide) kw_149 (by decide) rfl ?_
  refine pw_iload_n 1 rfl dX1_anyOf_12 rfl ?_
  refine pw_iconst dX1_anyOf_13 ?_
  refine pw_iadd dX1_anyOf_14 ?_
  refine pw_iaload dX1_anyOf_15 (by assumption) (by omega) (by omega) (fun r15 => ?_)
  refine pw_icmp_ge 23 (by decide) dX1_anyOf_16 (by omega) (by omega) (fun c16 => ?_) (fun c16 => ?_)
  · skip
    refine pw_iconst dX1_anyOf_23 ?_
    refine pw_zret dX1_anyOf_24 rfl (by omega) rfl ?_
    refine ⟨congrArg (fun z => some (vi z)) ?_, rfl, rfl⟩
    first | (rw [if_pos (by omega)]) | (rw [if_neg (by omega)])
  · skip
    refine pw_iconst dX1_anyOf_19 ?_
    refine pw_goto 24 (by decide) dX1_anyOf_20 ?_
    refine pw_zret dX1_anyOf_24 rfl (by omega) rfl ?_
    refine ⟨congrArg (fun z => some (vi z)) ?_, rfl, rfl⟩
    first | (rw [if_pos (by omega)]) | (rw [if_neg (by omega)])
set_option maxHeartbeats 4000000 in
set_option maxRecDepth 100000 in
theorem h_judgeN (d : Nat) (hd : 1 ≤ d) (n : Nat) (ok : pO) (mem : pM) (hN : NUp n ok) (b : Nat) (hC : ChUp n ok b) (A : pM) (c : Int) (v : Int → Int) (hI : cIn A c) (hS : CS A c mem b) (hV : CV A c mem b v) (hv : pOkv A c v) (k : Int) (hk : 0 ≤ k ∧ k < A 94 c) (ht : 0 ≤ mem 2 1 ∧ mem 2 1 ≤ 1000000000) : PM mi_X0_judge d [vr b, vi k, vi 1] n ok mem n (fun r ok' mem' => r = some (vi (jRes A c v k)) ∧ ok = ok' ∧ nEv mem (evW (hEv A c k)) = mem') := by
  obtain ⟨hN5, hN3⟩ := id hN
  obtain ⟨hC0, ⟨hC1, hC2, hC3, hC4, hC5, hC6, hC7⟩, hC8, ⟨hC9, hC10, hC11, hC12, hC13, hC14, hC15⟩, hC16, hC17, hb5, hb59⟩ := id hC
  obtain ⟨hR, hD, hSo⟩ := id hS
  have hOk := hI.ok
  have hk9 := hI.2.2.1.2 k (by omega) (by omega)
  have hcr := hR.2.2.2 k (by omega) (by omega)
  have hl : 0 ≤ (aLook A c k) ∧ (aLook A c k) ≤ 15 := hk9.2.1
  have e10 : mem (b + 10) k = (aLook A c k) := hcr.2.1
  have e2 : mem (b + 2) (aLook A c k) = aKind A c (aLook A c k) := (hR.2.1 _ hl.1 hl.2).1
  have e3 := (hR.2.1 _ hl.1 hl.2).2.1
  have e4 := hV _ hl.1 hl.2
  have hnc := hI.2.2.1.1
  have hcm := aComes_ran A c (aLook A c k)
  refine PM.of (by decide) (by decide) (Nat.le_refl _) (Nat.le_of_ble_eq_true rfl) ?_
  refine pw_aload_n 0 rfl dX0_judge_0 rfl ?_
  refine pw_gR 8 (b + 8) dX0_judge_1 cOk0 (by assumption) (by decide) kw_246 (by decide) rfl ?_
  refine pw_gR 1 (b + 10) dX0_judge_4 cOk1 (by assumption) (by decide) kw_137 (by decide) rfl ?_
  refine pw_iload_n 1 rfl dX0_judge_7 rfl ?_
  refine pw_iaload dX0_judge_8 (by assumption) (by omega) (by omega) (fun r8 => ?_)
  rw [e10] at r8 ⊢
  refine pw_istore_n 3 rfl dX0_judge_9 (by decide) ?_
  refine pw_aload_n 0 rfl dX0_judge_10 rfl ?_
  refine pw_iload_n 3 rfl dX0_judge_11 rfl ?_
  refine pw_iconst dX0_judge_12 ?_
  refine pw_callV (d' := d - 1) (As := [_, _]) (ci := 0) dX0_judge_13 ok_X0_findingAt kw_674 rfl rfl (Of.o (by assumption)) (by omega) rfl (Nat.le_of_ble_eq_true rfl) (h_findingAt (d - 1) (by omega) n ok _ hN b hC A c v hI hS hV hv _ (by omega) _ (by omega)) (Nat.le_refl _) (Or.inl rfl) (fun r ok1 mem1 hq => ?_)
  obtain ⟨rfl, rfl, rfl⟩ := hq
  rw [if_neg (show ¬ ((1 : Int) = 0) by omega)]
  refine pw_istore dX0_judge_16 (by decide) ?_
  refine pw_iload dX0_judge_18 rfl ?_
  refine pw_if_eq 27 (by decide) dX0_judge_20 (by omega) (fun c20 => ?_) (fun c20 => ?_)
  · skip
    refine pw_aload_n 0 rfl dX0_judge_27 rfl ?_
    refine pw_gR 2 (b + 2) dX0_judge_28 cOk0 (by assumption) (by decide) kw_230 (by decide) rfl ?_
    refine pw_iload_n 3 rfl dX0_judge_31 rfl ?_
    refine pw_iaload dX0_judge_32 (by assumption) (by omega) (by omega) (fun r32 => ?_)
    rw [e2] at r32 ⊢
    refine pw_iconst dX0_judge_33 ?_
    refine pw_icmp_ne 40 (by decide) dX0_judge_34 (by omega) (by omega) (fun c34 => ?_) (fun c34 => ?_)
    · skip
      have hk1 := aComes_kind c20
      have hsq := hI.2.1 _ hl.1 hl.2
      have hkr : 0 ≤ aKind A c (aLook A c k) ∧ aKind A c (aLook A c k) ≤ 4 := by
        rcases hsq with z | z
        · exact absurd z hk1
        · have : aKind A c (aLook A c k) = A 90 (16 * c + (aLook A c k)) := rfl
          omega
      rw [show eSp A c (aLook A c k) = aSpan A c (aLook A c k) from by unfold eSp; rw [if_neg hk1]] at e3
      rw [show eAv A c v (aLook A c k) = v (aLook A c k) from by unfold eAv; rw [if_neg hk1]] at e4
      have hp := hOk.1.2.2 _ hl.1 hl.2 hk1
      have hvl := hv _ hl.1 hl.2 hk1
      have htr := tel_ran (k := aKind A c (aLook A c k)) hp hvl
      have hEvE : hEv A c k = tW (aKind A c (aLook A c k)) := by unfold hEv; rw [if_neg (fun z => z c20), if_neg c34]
      refine pw_iload_n 2 rfl dX0_judge_40 rfl ?_
      refine pw_if_eq 57 (by decide) dX0_judge_41 (by omega) (fun c41 => ?_) (fun c41 => ?_)
      · skip
        exfalso; omega
      · skip
        refine pw_aload_n 0 rfl dX0_judge_44 rfl ?_
        refine pw_gR 0 2 dX0_judge_45 cOk0 (by assumption) (by decide) kw_227 (by decide) rfl ?_
        refine pw_aload_n 0 rfl dX0_judge_48 rfl ?_
        refine pw_gR 2 (b + 2) dX0_judge_49 cOk0 (by assumption) (by decide) kw_230 (by decide) rfl ?_
        refine pw_iload_n 3 rfl dX0_judge_52 rfl ?_
        refine pw_iaload dX0_judge_53 (by assumption) (by omega) (by omega) (fun r53 => ?_)
        rw [e2] at r53 ⊢
        refine pw_callV (d' := d - 1) (As := [_]) (ci := 5) dX0_judge_54 ok_X5_writeTelling kw_675 rfl rfl (Of.o (by assumption)) (by omega) rfl (Nat.le_of_ble_eq_true rfl) (n_writeTelling (d - 1) (by omega) n ok mem hN _ (by omega) (by omega)) (Nat.le_refl _) (Or.inl rfl) (fun r ok1 m1 hq => ?_)
        obtain ⟨rfl, rfl, em1⟩ := hq
        have g2 : m1 (b + 2) = mem (b + 2) := by rw [← em1]; exact nEv_a _ _ _ (by omega) (by omega)
        have g3 : m1 (b + 3) = mem (b + 3) := by rw [← em1]; exact nEv_a _ _ _ (by omega) (by omega)
        have g4 : m1 (b + 4) = mem (b + 4) := by rw [← em1]; exact nEv_a _ _ _ (by omega) (by omega)
        have g11 : m1 (b + 11) = mem (b + 11) := by rw [← em1]; exact nEv_a _ _ _ (by omega) (by omega)
        have g12 : m1 (b + 12) = mem (b + 12) := by rw [← em1]; exact nEv_a _ _ _ (by omega) (by omega)
        refine pw_aload_n 0 rfl dX0_judge_57 rfl ?_
        refine pw_gR 2 (b + 2) dX0_judge_58 cOk0 (by assumption) (by decide) kw_230 (by decide) rfl ?_
        refine pw_iload_n 3 rfl dX0_judge_61 rfl ?_
        refine pw_iaload dX0_judge_62 (by assumption) (by omega) (by omega) (fun r62 => ?_)
        rw [g2, e2] at r62 ⊢
        refine pw_aload_n 0 rfl dX0_judge_63 rfl ?_
        refine pw_gR 3 (b + 3) dX0_judge_64 cOk0 (by assumption) (by decide) kw_234 (by decide) rfl ?_
        refine pw_iload_n 3 rfl dX0_judge_67 rfl ?_
        refine pw_iaload dX0_judge_68 (by assumption) (by omega) (by omega) (fun r68 => ?_)
        rw [g3, e3] at r68 ⊢
        refine pw_aload_n 0 rfl dX0_judge_69 rfl ?_
        refine pw_gR 4 (b + 4) dX0_judge_70 cOk0 (by assumption) (by decide) kw_238 (by decide) rfl ?_
        refine pw_iload_n 3 rfl dX0_judge_73 rfl ?_
        refine pw_iaload dX0_judge_74 (by assumption) (by omega) (by omega) (fun r74 => ?_)
        rw [g4, e4] at r74 ⊢
        refine pw_callS (d' := d - 1) (As := [_, _, _]) dX0_judge_75 ok_X0_numberTold kw_220 (by omega) rfl (Nat.le_of_ble_eq_true rfl) (s_numberTold (d - 1) (by omega) n ok _ _ _ _ (by omega) hp hvl) (Nat.le_refl _) (Or.inl rfl) (fun r ok1 mem1 hq => ?_)
        obtain ⟨rfl, rfl, rfl⟩ := hq
        have hT : tel (aKind A c (aLook A c k)) (aSpan A c (aLook A c k)) (v (aLook A c k)) = hTel A c v k := rfl
        rw [hT]
        rw [hT] at htr
        refine pw_istore dX0_judge_78 (by decide) ?_
        refine pw_aload_n 0 rfl dX0_judge_80 rfl ?_
        refine pw_gR 8 (b + 8) dX0_judge_81 cOk0 (by assumption) (by decide) kw_246 (by decide) rfl ?_
        refine pw_iload_n 1 rfl dX0_judge_84 rfl ?_
        refine pw_iload dX0_judge_85 rfl ?_
        refine pw_iconst dX0_judge_87 ?_
        refine pw_callV (d' := d - 1) (As := [_, _, _]) (ci := 1) dX0_judge_88 ok_X1_findingOfTruths kw_681 rfl rfl (Of.o (by assumption)) (by omega) rfl (Nat.le_of_ble_eq_true rfl) (q_finding (d - 1) (by omega) n ok _ b hC k (hTel A c v k) 1 (by omega) (by omega) (by omega) (by rw [g11]; rw [hcr.2.2.1]; exact hk9.2.2.1)) (Nat.le_refl _) (Or.inl rfl) (fun r ok1 mem1 hq => ?_)
        obtain ⟨rfl, rfl, rfl⟩ := hq
        have hff : ftF (m1 (b + 11) k) (hTel A c v k) 1 = hMet A c v k := by
          rw [g11, hcr.2.2.1]
          have q5 : hMet A c v k = if A 97 (40 * c + k) = -1 then 1 else if A 97 (40 * c + k) ≤ hTel A c v k then 2 else 0 := by unfold hMet; rw [if_neg (fun z => z c20), if_neg c34]
          rw [q5]; unfold ftF
          (repeat' split) <;> omega
        rw [hff]
        have hmr := hMet_ran A c v k
        refine pw_istore dX0_judge_91 (by decide) ?_
        refine pw_iload dX0_judge_93 rfl ?_
        refine pw_if_eq 104 (by decide) dX0_judge_95 (by omega) (fun c95 => ?_) (fun c95 => ?_)
        · skip
          refine pw_aload_n 0 rfl dX0_judge_104 rfl ?_
          refine pw_gR 8 (b + 8) dX0_judge_105 cOk0 (by assumption) (by decide) kw_246 (by decide) rfl ?_
          refine pw_iload_n 1 rfl dX0_judge_108 rfl ?_
          refine pw_iload dX0_judge_109 rfl ?_
          refine pw_callV (d' := d - 1) (As := [_, _]) (ci := 1) dX0_judge_111 ok_X1_truthAt kw_223 rfl rfl (Of.o (by assumption)) (by omega) rfl (Nat.le_of_ble_eq_true rfl) (q_truthAt (d - 1) (by omega) n ok _ b hC k (hTel A c v k) (by omega) (by omega)) (Nat.le_refl _) (Or.inl rfl) (fun r ok1 mem1 hq => ?_)
          obtain ⟨rfl, rfl, rfl⟩ := hq
          have hbt := hcr.2.2.2 (hTel A c v k).toNat (by omega)
          rw [Int.toNat_of_nonneg htr.1] at hbt
          have hIe : (if tb (m1 (b + 12) k) (hTel A c v k).toNat = true then (1 : Int) else 0) = hIs A c v k := by
            rw [g12]
            by_cases q : aTru A c k (hTel A c v k) = 1
            · rw [if_pos (hbt.mpr q)]; unfold hIs; rw [if_pos ⟨c95, q⟩]
            · rw [if_neg (fun z => q (hbt.mp z))]; unfold hIs; rw [if_neg (fun z => q z.2)]
          rw [hIe]
          refine pw_iret dX0_judge_114 rfl rfl ?_
          refine ⟨congrArg (fun z => some (vi z)) ?_, rfl, by rw [hEvE]; exact em1⟩
          unfold jRes; rw [if_neg (fun z => z c95)]
        · skip
          refine pw_iload dX0_judge_98 rfl ?_
          refine pw_ineg dX0_judge_100 ?_
          refine pw_goto 114 (by decide) dX0_judge_101 ?_
          refine pw_iret dX0_judge_114 rfl rfl ?_
          refine ⟨congrArg (fun z => some (vi z)) ?_, rfl, by rw [hEvE]; exact em1⟩
          unfold jRes; rw [if_pos c95]
    · skip
      refine pw_bipush dX0_judge_37 (by decide) ?_
      refine pw_iret dX0_judge_39 rfl rfl ?_
      refine ⟨congrArg (fun z => some (vi z)) (by
        have h3 : hMet A c v k = 3 := by unfold hMet; rw [if_neg (fun z => z c20), if_pos (by omega)]
        unfold jRes; rw [h3]; rfl), rfl, ?_⟩
      unfold hEv; rw [if_neg (fun z => z c20), if_pos (by omega)]; rfl
  · skip
    refine pw_iload dX0_judge_23 rfl ?_
    refine pw_ineg dX0_judge_25 ?_
    refine pw_iret dX0_judge_26 rfl rfl ?_
    refine ⟨congrArg (fun z => some (vi z)) ?_, rfl, ?_⟩
    unfold jRes hMet; rw [if_pos c20, if_pos c20]
    unfold hEv; rw [if_pos c20]; rfl
set_option maxHeartbeats 4000000 in
set_option maxRecDepth 100000 in
theorem h_judgeQ (d : Nat) (hd : 1 ≤ d) (n : Nat) (ok : pO) (mem : pM) (hN : NUp n ok) (b : Nat) (hC : ChUp n ok b) (A : pM) (c : Int) (v : Int → Int) (hI : cIn A c) (hS : CS A c mem b) (hV : CV A c mem b v) (hv : pOkv A c v) (k : Int) (hk : 0 ≤ k ∧ k < A 94 c) : PM mi_X0_judge d [vr b, vi k, vi 0] n ok mem n (fun r ok' mem' => r = some (vi (jRes A c v k)) ∧ ok = ok' ∧ mem = mem') := by
  obtain ⟨hN5, hN3⟩ := id hN
  obtain ⟨hC0, ⟨hC1, hC2, hC3, hC4, hC5, hC6, hC7⟩, hC8, ⟨hC9, hC10, hC11, hC12, hC13, hC14, hC15⟩, hC16, hC17, hb5, hb59⟩ := id hC
  obtain ⟨hR, hD, hSo⟩ := id hS
  have hOk := hI.ok
  have hk9 := hI.2.2.1.2 k (by omega) (by omega)
  have hcr := hR.2.2.2 k (by omega) (by omega)
  have hl : 0 ≤ (aLook A c k) ∧ (aLook A c k) ≤ 15 := hk9.2.1
  have e10 : mem (b + 10) k = (aLook A c k) := hcr.2.1
  have e2 : mem (b + 2) (aLook A c k) = aKind A c (aLook A c k) := (hR.2.1 _ hl.1 hl.2).1
  have e3 := (hR.2.1 _ hl.1 hl.2).2.1
  have e4 := hV _ hl.1 hl.2
  have hnc := hI.2.2.1.1
  have hcm := aComes_ran A c (aLook A c k)
  refine PM.of (by decide) (by decide) (Nat.le_refl _) (Nat.le_of_ble_eq_true rfl) ?_
  refine pw_aload_n 0 rfl dX0_judge_0 rfl ?_
  refine pw_gR 8 (b + 8) dX0_judge_1 cOk0 (by assumption) (by decide) kw_246 (by decide) rfl ?_
  refine pw_gR 1 (b + 10) dX0_judge_4 cOk1 (by assumption) (by decide) kw_137 (by decide) rfl ?_
  refine pw_iload_n 1 rfl dX0_judge_7 rfl ?_
  refine pw_iaload dX0_judge_8 (by assumption) (by omega) (by omega) (fun r8 => ?_)
  rw [e10] at r8 ⊢
  refine pw_istore_n 3 rfl dX0_judge_9 (by decide) ?_
  refine pw_aload_n 0 rfl dX0_judge_10 rfl ?_
  refine pw_iload_n 3 rfl dX0_judge_11 rfl ?_
  refine pw_iconst dX0_judge_12 ?_
  refine pw_callV (d' := d - 1) (As := [_, _]) (ci := 0) dX0_judge_13 ok_X0_findingAt kw_674 rfl rfl (Of.o (by assumption)) (by omega) rfl (Nat.le_of_ble_eq_true rfl) (h_findingAt (d - 1) (by omega) n ok _ hN b hC A c v hI hS hV hv _ (by omega) _ (by omega)) (Nat.le_refl _) (Or.inl rfl) (fun r ok1 mem1 hq => ?_)
  obtain ⟨rfl, rfl, rfl⟩ := hq
  rw [if_neg (show ¬ ((1 : Int) = 0) by omega)]
  refine pw_istore dX0_judge_16 (by decide) ?_
  refine pw_iload dX0_judge_18 rfl ?_
  refine pw_if_eq 27 (by decide) dX0_judge_20 (by omega) (fun c20 => ?_) (fun c20 => ?_)
  · skip
    refine pw_aload_n 0 rfl dX0_judge_27 rfl ?_
    refine pw_gR 2 (b + 2) dX0_judge_28 cOk0 (by assumption) (by decide) kw_230 (by decide) rfl ?_
    refine pw_iload_n 3 rfl dX0_judge_31 rfl ?_
    refine pw_iaload dX0_judge_32 (by assumption) (by omega) (by omega) (fun r32 => ?_)
    rw [e2] at r32 ⊢
    refine pw_iconst dX0_judge_33 ?_
    refine pw_icmp_ne 40 (by decide) dX0_judge_34 (by omega) (by omega) (fun c34 => ?_) (fun c34 => ?_)
    · skip
      have hk1 := aComes_kind c20
      have hsq := hI.2.1 _ hl.1 hl.2
      have hkr : 0 ≤ aKind A c (aLook A c k) ∧ aKind A c (aLook A c k) ≤ 4 := by
        rcases hsq with z | z
        · exact absurd z hk1
        · have : aKind A c (aLook A c k) = A 90 (16 * c + (aLook A c k)) := rfl
          omega
      rw [show eSp A c (aLook A c k) = aSpan A c (aLook A c k) from by unfold eSp; rw [if_neg hk1]] at e3
      rw [show eAv A c v (aLook A c k) = v (aLook A c k) from by unfold eAv; rw [if_neg hk1]] at e4
      have hp := hOk.1.2.2 _ hl.1 hl.2 hk1
      have hvl := hv _ hl.1 hl.2 hk1
      have htr := tel_ran (k := aKind A c (aLook A c k)) hp hvl
      have hEvE : hEv A c k = tW (aKind A c (aLook A c k)) := by unfold hEv; rw [if_neg (fun z => z c20), if_neg c34]
      refine pw_iload_n 2 rfl dX0_judge_40 rfl ?_
      refine pw_if_eq 57 (by decide) dX0_judge_41 (by omega) (fun c41 => ?_) (fun c41 => ?_)
      · skip
        refine pw_aload_n 0 rfl dX0_judge_57 rfl ?_
        refine pw_gR 2 (b + 2) dX0_judge_58 cOk0 (by assumption) (by decide) kw_230 (by decide) rfl ?_
        refine pw_iload_n 3 rfl dX0_judge_61 rfl ?_
        refine pw_iaload dX0_judge_62 (by assumption) (by omega) (by omega) (fun r62 => ?_)
        rw [e2] at r62 ⊢
        refine pw_aload_n 0 rfl dX0_judge_63 rfl ?_
        refine pw_gR 3 (b + 3) dX0_judge_64 cOk0 (by assumption) (by decide) kw_234 (by decide) rfl ?_
        refine pw_iload_n 3 rfl dX0_judge_67 rfl ?_
        refine pw_iaload dX0_judge_68 (by assumption) (by omega) (by omega) (fun r68 => ?_)
        rw [e3] at r68 ⊢
        refine pw_aload_n 0 rfl dX0_judge_69 rfl ?_
        refine pw_gR 4 (b + 4) dX0_judge_70 cOk0 (by assumption) (by decide) kw_238 (by decide) rfl ?_
        refine pw_iload_n 3 rfl dX0_judge_73 rfl ?_
        refine pw_iaload dX0_judge_74 (by assumption) (by omega) (by omega) (fun r74 => ?_)
        rw [e4] at r74 ⊢
        refine pw_callS (d' := d - 1) (As := [_, _, _]) dX0_judge_75 ok_X0_numberTold kw_220 (by omega) rfl (Nat.le_of_ble_eq_true rfl) (s_numberTold (d - 1) (by omega) n ok _ _ _ _ (by omega) hp hvl) (Nat.le_refl _) (Or.inl rfl) (fun r ok1 mem1 hq => ?_)
        obtain ⟨rfl, rfl, rfl⟩ := hq
        have hT : tel (aKind A c (aLook A c k)) (aSpan A c (aLook A c k)) (v (aLook A c k)) = hTel A c v k := rfl
        rw [hT]
        rw [hT] at htr
        refine pw_istore dX0_judge_78 (by decide) ?_
        refine pw_aload_n 0 rfl dX0_judge_80 rfl ?_
        refine pw_gR 8 (b + 8) dX0_judge_81 cOk0 (by assumption) (by decide) kw_246 (by decide) rfl ?_
        refine pw_iload_n 1 rfl dX0_judge_84 rfl ?_
        refine pw_iload dX0_judge_85 rfl ?_
        refine pw_iconst dX0_judge_87 ?_
        refine pw_callV (d' := d - 1) (As := [_, _, _]) (ci := 1) dX0_judge_88 ok_X1_findingOfTruths kw_681 rfl rfl (Of.o (by assumption)) (by omega) rfl (Nat.le_of_ble_eq_true rfl) (q_finding (d - 1) (by omega) n ok _ b hC k (hTel A c v k) 1 (by omega) (by omega) (by omega) (by rw [hcr.2.2.1]; exact hk9.2.2.1)) (Nat.le_refl _) (Or.inl rfl) (fun r ok1 mem1 hq => ?_)
        obtain ⟨rfl, rfl, rfl⟩ := hq
        have hff : ftF (mem (b + 11) k) (hTel A c v k) 1 = hMet A c v k := by
          rw [hcr.2.2.1]
          have q5 : hMet A c v k = if A 97 (40 * c + k) = -1 then 1 else if A 97 (40 * c + k) ≤ hTel A c v k then 2 else 0 := by unfold hMet; rw [if_neg (fun z => z c20), if_neg c34]
          rw [q5]; unfold ftF
          (repeat' split) <;> omega
        rw [hff]
        have hmr := hMet_ran A c v k
        refine pw_istore dX0_judge_91 (by decide) ?_
        refine pw_iload dX0_judge_93 rfl ?_
        refine pw_if_eq 104 (by decide) dX0_judge_95 (by omega) (fun c95 => ?_) (fun c95 => ?_)
        · skip
          refine pw_aload_n 0 rfl dX0_judge_104 rfl ?_
          refine pw_gR 8 (b + 8) dX0_judge_105 cOk0 (by assumption) (by decide) kw_246 (by decide) rfl ?_
          refine pw_iload_n 1 rfl dX0_judge_108 rfl ?_
          refine pw_iload dX0_judge_109 rfl ?_
          refine pw_callV (d' := d - 1) (As := [_, _]) (ci := 1) dX0_judge_111 ok_X1_truthAt kw_223 rfl rfl (Of.o (by assumption)) (by omega) rfl (Nat.le_of_ble_eq_true rfl) (q_truthAt (d - 1) (by omega) n ok _ b hC k (hTel A c v k) (by omega) (by omega)) (Nat.le_refl _) (Or.inl rfl) (fun r ok1 mem1 hq => ?_)
          obtain ⟨rfl, rfl, rfl⟩ := hq
          have hbt := hcr.2.2.2 (hTel A c v k).toNat (by omega)
          rw [Int.toNat_of_nonneg htr.1] at hbt
          have hIe : (if tb (mem (b + 12) k) (hTel A c v k).toNat = true then (1 : Int) else 0) = hIs A c v k := by
            skip
            by_cases q : aTru A c k (hTel A c v k) = 1
            · rw [if_pos (hbt.mpr q)]; unfold hIs; rw [if_pos ⟨c95, q⟩]
            · rw [if_neg (fun z => q (hbt.mp z))]; unfold hIs; rw [if_neg (fun z => q z.2)]
          rw [hIe]
          refine pw_iret dX0_judge_114 rfl rfl ?_
          refine ⟨congrArg (fun z => some (vi z)) ?_, rfl, rfl⟩
          unfold jRes; rw [if_neg (fun z => z c95)]
        · skip
          refine pw_iload dX0_judge_98 rfl ?_
          refine pw_ineg dX0_judge_100 ?_
          refine pw_goto 114 (by decide) dX0_judge_101 ?_
          refine pw_iret dX0_judge_114 rfl rfl ?_
          refine ⟨congrArg (fun z => some (vi z)) ?_, rfl, rfl⟩
          unfold jRes; rw [if_pos c95]
      · skip
        exfalso; omega
    · skip
      refine pw_bipush dX0_judge_37 (by decide) ?_
      refine pw_iret dX0_judge_39 rfl rfl ?_
      refine ⟨congrArg (fun z => some (vi z)) (by
        have h3 : hMet A c v k = 3 := by unfold hMet; rw [if_neg (fun z => z c20), if_pos (by omega)]
        unfold jRes; rw [h3]; rfl), rfl, rfl⟩
  · skip
    refine pw_iload dX0_judge_23 rfl ?_
    refine pw_ineg dX0_judge_25 ?_
    refine pw_iret dX0_judge_26 rfl rfl ?_
    refine ⟨congrArg (fun z => some (vi z)) ?_, rfl, rfl⟩
    unfold jRes hMet; rw [if_pos c20, if_pos c20]
