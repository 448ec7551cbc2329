/-! ===== sorting by seat ===== -/
def Stv (f : Int → Int) (s n : Int) : Int → Int := fun j => if j ≤ s + 1 then f j else n
def nLt (g : Int → Int) (s : Int) : Nat → Int
  | 0 => 0
  | k + 1 => nLt g s k + (if g k < s then 1 else 0)
def nEq (g : Int → Int) (s : Int) : Nat → Int
  | 0 => 0
  | k + 1 => nEq g s k + (if g k = s then 1 else 0)
theorem nLt_b (g : Int → Int) (s : Int) (k : Nat) : 0 ≤ nLt g s k ∧ nLt g s k ≤ k := by
  induction k with
  | zero => exact ⟨Int.le_refl _, Int.le_refl _⟩
  | succ k ih => unfold nLt; split <;> omega
theorem nLE (g : Int → Int) (s : Int) (k : Nat) : nLt g s k + nEq g s k = nLt g (s + 1) k := by
  induction k with
  | zero => rfl
  | succ k ih => unfold nLt nEq; (repeat' split) <;> omega
theorem nEq_b (g : Int → Int) (s : Int) (k : Nat) : 0 ≤ nEq g s k := by
  induction k with
  | zero => exact Int.le_refl _
  | succ k ih => unfold nEq; split <;> omega
theorem nEq_m (g : Int → Int) (s : Int) (k j : Nat) : nEq g s k ≤ nEq g s (k + j) := by
  induction j with
  | zero => exact Int.le_refl _
  | succ j ih => show _ ≤ nEq g s (k + j) + _; split <;> omega
/-- there is room while conditions of seat s are found -/
theorem nRoom (g : Int → Int) (s : Int) (N k : Nat) (h : k < N) (hs : g k = s) : nLt g s N + nEq g s k < N := by
  have a := nLE g s N
  have b := (nLt_b g (s + 1) N).2
  have c := nEq_m g s (k + 1) (N - (k + 1))
  rw [show k + 1 + (N - (k + 1)) = N by omega] at c
  have e : nEq g s (k + 1) = nEq g s k + 1 := by show nEq g s k + _ = _; rw [if_pos hs]
  omega
def SV (g : Int → Int) (N : Int) (so f : Int → Int) (s k n : Int) : Prop :=
  (∀ q, -1 ≤ q → q ≤ 15 → 0 ≤ Stv f s n (q + 1) ∧ Stv f s n (q + 1) ≤ Stv f s n (q + 2) ∧ Stv f s n (q + 2) ≤ n) ∧
  (∀ q, -1 ≤ q → q ≤ 15 → ∀ i, Stv f s n (q + 1) ≤ i → i < Stv f s n (q + 2) → 0 ≤ so i ∧ so i < N ∧ g (so i) = q) ∧
  (∀ q, -1 ≤ q → q ≤ 15 → ∀ i j, Stv f s n (q + 1) ≤ i → i < j → j < Stv f s n (q + 2) → so i < so j) ∧
  (∀ j, 0 ≤ j → j < N → (g j < s ∨ (g j = s ∧ j < k)) → ∃ i, Stv f s n (g j + 1) ≤ i ∧ i < Stv f s n (g j + 2) ∧ so i = j) ∧
  (∀ i, Stv f s n (s + 1) ≤ i → i < n → so i < k) ∧ 0 ≤ n
theorem SV_no {g : Int → Int} {N : Int} {so f : Int → Int} {s k n : Int} (h : SV g N so f s k n) (hk : g k ≠ s) : SV g N so f s (k + 1) n := by
  obtain ⟨h1, h2, h3, h4, h5, h6⟩ := h
  refine ⟨h1, h2, h3, fun j j1 j2 j3 => h4 j j1 j2 ?_, fun i i1 i2 => by have := h5 i i1 i2; omega, h6⟩
  rcases j3 with z | z
  · exact Or.inl z
  · refine Or.inr ⟨z.1, ?_⟩
    have : j ≠ k := fun e => hk (by rw [← e]; exact z.1)
    omega
theorem SV_yes {g : Int → Int} {N : Int} {so f : Int → Int} {s k n : Int} (h : SV g N so f s k n) (hgr : ∀ j, 0 ≤ j → j < N → -1 ≤ g j ∧ g j ≤ 15) (hs : -1 ≤ s ∧ s ≤ 15) (hk : 0 ≤ k ∧ k < N) (hg : g k = s) : SV g N (vUp so n k) f s (k + 1) (n + 1) := by
  obtain ⟨h1, h2, h3, h4, h5, h6⟩ := h
  have so1 : ∀ i, i < n → vUp so n k i = so i := fun i hi => if_neg (by omega)
  have so2 : vUp so n k n = k := if_pos rfl
  have lo : ∀ j, j ≤ s + 1 → Stv f s (n + 1) j = Stv f s n j := fun j hj => by unfold Stv; rw [if_pos hj, if_pos hj]
  have hi : ∀ j, ¬ j ≤ s + 1 → Stv f s (n + 1) j = n + 1 ∧ Stv f s n j = n := fun j hj => by unfold Stv; exact ⟨if_neg hj, if_neg hj⟩
  have hcur := h1 s hs.1 hs.2
  refine ⟨fun q q1 q2 => ?_, fun q q1 q2 i i1 i2 => ?_, fun q q1 q2 i j i1 ij j2 => ?_, fun j j1 j2 j3 => ?_, fun i i1 i2 => ?_, by omega⟩
  · have a := h1 q q1 q2
    by_cases w : q + 1 ≤ s + 1
    · rw [lo _ w]
      by_cases w2 : q + 2 ≤ s + 1
      · rw [lo _ w2]; omega
      · rw [(hi _ w2).1]; rw [(hi _ w2).2] at a; omega
    · rw [(hi _ w).1, (hi _ (show ¬ q + 2 ≤ s + 1 by omega)).1]; omega
  · by_cases w : q + 1 ≤ s + 1
    · rw [lo _ w] at i1
      by_cases w2 : q + 2 ≤ s + 1
      · rw [lo _ w2] at i2
        have a := h1 q q1 q2
        rw [so1 i (by omega)]; exact h2 q q1 q2 i i1 i2
      · rw [(hi _ w2).1] at i2
        have hq : q = s := by omega
        by_cases e : i = n
        · rw [e, so2]; exact ⟨hk.1, hk.2, by rw [hg, hq]⟩
        · rw [so1 i (by omega)]; exact h2 q q1 q2 i i1 (by rw [(hi _ w2).2]; omega)
    · rw [(hi _ w).1] at i1; rw [(hi _ (show ¬ q + 2 ≤ s + 1 by omega)).1] at i2; omega
  · by_cases w : q + 1 ≤ s + 1
    · rw [lo _ w] at i1
      by_cases w2 : q + 2 ≤ s + 1
      · rw [lo _ w2] at j2
        have a := h1 q q1 q2
        rw [so1 i (by omega), so1 j (by omega)]; exact h3 q q1 q2 i j i1 ij j2
      · rw [(hi _ w2).1] at j2
        have hq : q = s := by omega
        by_cases e : j = n
        · rw [e, so2, so1 i (by omega)]; exact h5 i (by rw [show s + 1 = q + 1 by omega]; exact i1) (by omega)
        · rw [so1 i (by omega), so1 j (by omega)]; exact h3 q q1 q2 i j i1 ij (by rw [(hi _ w2).2]; omega)
    · rw [(hi _ w).1] at i1; rw [(hi _ (show ¬ q + 2 ≤ s + 1 by omega)).1] at j2; omega
  · by_cases e : j = k
    · subst e
      refine ⟨n, ?_, ?_, so2⟩
      · rw [hg, lo _ (by omega)]; omega
      · rw [hg, (hi _ (show ¬ s + 2 ≤ s + 1 by omega)).1]; omega
    · obtain ⟨i, i1, i2, i3⟩ := h4 j j1 j2 (by rcases j3 with z | z; exact Or.inl z; exact Or.inr ⟨z.1, by omega⟩)
      have hgj : g j ≤ s := by rcases j3 with z | z <;> omega
      have hn : i < n := by
        by_cases w2 : g j + 2 ≤ s + 1
        · have h7 : Stv f s n (g j + 2) ≤ n := by
            exact (h1 (g j) (hgr j j1 j2).1 (hgr j j1 j2).2).2.2
          omega
        · rw [(hi _ w2).2] at i2; exact i2
      refine ⟨i, ?_, ?_, by rw [so1 i hn]; exact i3⟩
      · rw [lo _ (by omega)]; exact i1
      · by_cases w2 : g j + 2 ≤ s + 1
        · rw [lo _ w2]; exact i2
        · rw [(hi _ w2).1]; omega
  · rw [lo _ (by omega)] at i1
    by_cases e : i = n
    · rw [e, so2]; omega
    · rw [so1 i (by omega)]; have := h5 i i1 (by omega); omega
theorem SV_next {g : Int → Int} {N : Int} {so f : Int → Int} {s n : Int} (h : SV g N so f s N n) (hs : -1 ≤ s ∧ s ≤ 14) (hgr : ∀ j, 0 ≤ j → j < N → -1 ≤ g j ∧ g j ≤ 15) : SV g N so (vUp f (s + 2) n) (s + 1) 0 n := by
  obtain ⟨h1, h2, h3, h4, h5, h6⟩ := h
  have e : ∀ j, Stv (vUp f (s + 2) n) (s + 1) n j = Stv f s n j := fun j => by
    unfold Stv vUp
    by_cases a : j ≤ s + 1
    · rw [if_pos a, if_pos (by omega), if_neg (by omega)]
    · rw [if_neg a]
      by_cases b : j = s + 2
      · rw [if_pos (by omega), if_pos b]
      · rw [if_neg (by omega)]
  unfold SV
  simp only [e]
  refine ⟨h1, h2, h3, fun j j1 j2 j3 => h4 j j1 j2 (by omega), fun i i1 i2 => ?_, h6⟩
  have z : Stv f s n (s + 1 + 1) = n := by unfold Stv; rw [if_neg (by omega)]
  rw [z] at i1; omega
theorem SV_init (g : Int → Int) (N : Int) (so f : Int → Int) (hf : f 0 = 0) (hgr : ∀ j, 0 ≤ j → j < N → -1 ≤ g j ∧ g j ≤ 15) : SV g N so f (-1) 0 0 := by
  have e : ∀ j, 0 ≤ j → Stv f (-1) 0 j = 0 := fun j hj => by
    unfold Stv
    by_cases a : j ≤ -1 + 1
    · rw [if_pos a, show j = 0 by omega, hf]
    · rw [if_neg a]
  refine ⟨fun q q1 q2 => by rw [e _ (by omega), e _ (by omega)]; omega, fun q q1 q2 i i1 i2 => ?_, fun q q1 q2 i j i1 ij j2 => ?_, fun j j1 j2 j3 => ?_, fun i i1 i2 => ?_, Int.le_refl _⟩
  · rw [e _ (by omega)] at i1 i2; omega
  · rw [e _ (by omega)] at i1 j2; omega
  · have := hgr j j1 j2; omega
  · rw [e _ (by omega)] at i1; omega
theorem SV_fin {g : Int → Int} {N : Int} {so f : Int → Int} {n : Int} (h : SV g N so f 15 N n) (hgr : ∀ j, 0 ≤ j → j < N → -1 ≤ g j ∧ g j ≤ 15) (hn : n ≤ 40) :
    (∀ q, -1 ≤ q → q ≤ 15 → 0 ≤ vUp f 17 n (q + 1) ∧ vUp f 17 n (q + 1) ≤ vUp f 17 n (q + 2) ∧ vUp f 17 n (q + 2) ≤ 40) ∧
    (∀ q, -1 ≤ q → q ≤ 15 → ∀ i, vUp f 17 n (q + 1) ≤ i → i < vUp f 17 n (q + 2) → 0 ≤ so i ∧ so i < N ∧ g (so i) = q) ∧
    (∀ q, -1 ≤ q → q ≤ 15 → ∀ i j, vUp f 17 n (q + 1) ≤ i → i < j → j < vUp f 17 n (q + 2) → so i < so j) ∧
    ∀ k, 0 ≤ k → k < N → ∃ i, vUp f 17 n (g k + 1) ≤ i ∧ i < vUp f 17 n (g k + 2) ∧ so i = k := by
  obtain ⟨h1, h2, h3, h4, h5, h6⟩ := h
  have e : ∀ j, j ≤ 17 → vUp f 17 n j = Stv f 15 n j := fun j hj => by
    unfold Stv vUp
    by_cases a : j = 17
    · rw [if_pos a, if_neg (by omega)]
    · rw [if_neg a, if_pos (by omega)]
  refine ⟨fun q q1 q2 => ?_, fun q q1 q2 i i1 i2 => ?_, fun q q1 q2 i j i1 ij j2 => ?_, fun k k1 k2 => ?_⟩
  · rw [e _ (by omega), e _ (by omega)]; have := h1 q q1 q2; omega
  · rw [e _ (by omega)] at i1 i2; exact h2 q q1 q2 i i1 i2
  · rw [e _ (by omega)] at i1 j2; exact h3 q q1 q2 i j i1 ij j2
  · have a := hgr k k1 k2
    rw [e _ (by omega), e _ (by omega)]
    exact h4 k k1 k2 (by omega)

/-! ===== the class: conditions sorted, what follows from parts and conditions ===== -/
def SOr (g : Int → Int) (N : Int) (so st : Int → Int) : Prop :=
  (∀ q, -1 ≤ q → q ≤ 15 → 0 ≤ st (q + 1) ∧ st (q + 1) ≤ st (q + 2) ∧ st (q + 2) ≤ 40) ∧
  (∀ q, -1 ≤ q → q ≤ 15 → ∀ i, st (q + 1) ≤ i → i < st (q + 2) → 0 ≤ so i ∧ so i < N ∧ g (so i) = q) ∧
  (∀ q, -1 ≤ q → q ≤ 15 → ∀ i j, st (q + 1) ≤ i → i < j → j < st (q + 2) → so i < so j) ∧
  ∀ k, 0 ≤ k → k < N → ∃ i, st (g k + 1) ≤ i ∧ i < st (g k + 2) ∧ so i = k
theorem SO_of {A : pM} {c : Int} {m : pM} {b : Nat} {g : Int → Int} {N : Int} (h : SOr g N (m (b + 14)) (m (b + 15))) (hN : N = A 94 c) (hg : ∀ k, 0 ≤ k → k < N → g k = A 95 (40 * c + k)) : SO A c m b := by
  obtain ⟨h1, h2, h3, h4⟩ := h
  refine ⟨h1, fun s s1 s2 i i1 i2 => ?_, h3, fun k k1 k2 => ?_⟩
  · have a := h2 s s1 s2 i i1 i2
    exact ⟨a.1, by omega, by rw [← hg _ a.1 a.2.1]; exact a.2.2⟩
  · have a := h4 k k1 (by omega)
    rw [hg k k1 (by omega)] at a
    exact a
def Fso (b : Nat) (m m1 : pM) : Prop := ∀ a, a ≠ b + 14 → a ≠ b + 15 → m1 a = m a
theorem nLt_0 (g : Int → Int) (k : Nat) (h : ∀ j : Int, 0 ≤ j → j < k → -1 ≤ g j) : nLt g (-1) k = 0 := by
  induction k with
  | zero => rfl
  | succ k ih =>
    have a := h k (by omega) (by omega)
    show nLt g (-1) k + _ = 0
    rw [ih (fun j j1 j2 => h j j1 (by omega)), if_neg (by omega)]; rfl
set_option maxHeartbeats 4000000 in
set_option maxRecDepth 100000 in
theorem q_sort (d : Nat) (hd : 0 ≤ d) (n : Nat) (ok : pO) (mem : pM) (b : Nat) (hC : ChUp n ok b) (hN9 : 0 ≤ mem (b + 8) 7 ∧ mem (b + 8) 7 ≤ 40) (hg : ∀ j, 0 ≤ j → j < mem (b + 8) 7 → -1 ≤ mem (b + 9) j ∧ mem (b + 9) j ≤ 15) : PM mi_X1_sort d [vr (b + 8)] n ok mem n (fun r ok' mem' => r = none ∧ ok = ok' ∧ Fso b mem mem' ∧ SOr (mem (b + 9)) (mem (b + 8) 7) (mem' (b + 14)) (mem' (b + 15))) := by
  obtain ⟨hC0, ⟨hC1, hC2, hC3, hC4, hC5, hC6, hC7⟩, hC8, ⟨hC9, hC10, hC11, hC12, hC13, hC14, hC15⟩, hC16, hC17, hb5, hb59⟩ := id hC
  have hx0 : (0 : Int) = nLt (mem (b + 9)) (-1) (mem (b + 8) 7).toNat := (nLt_0 _ _ (fun j j1 j2 => (hg j j1 (by omega)).1)).symm
  refine PM.of (by decide) (by decide) (Nat.le_refl _) (Nat.le_of_ble_eq_true rfl) ?_
  refine pw_iconst dX1_sort_0 ?_
  refine pw_istore_n 1 rfl dX1_sort_1 (by decide) ?_
  refine pw_iconst dX1_sort_2 ?_
  refine pw_istore_n 2 rfl dX1_sort_3 (by decide) ?_
  have lp4 : ∀ (kz : Nat) (s x : Int) (m1 : pM), 16 - s < (kz : Int) → (-1 ≤ s ∧ s ≤ 16) → (x = nLt (mem (b + 9)) s (mem (b + 8) 7).toNat) → (Fso b mem m1) → ((s = -1 ∧ x = 0) ∨ (0 ≤ s ∧ SV (mem (b + 9)) (mem (b + 8) 7) (m1 (b + 14)) (m1 (b + 15)) (s - 1) (mem (b + 8) 7) x)) → PW mi_X1_sort d n n (fun r ok' mem' => r = none ∧ ok = ok' ∧ Fso b mem mem' ∧ SOr (mem (b + 9)) (mem (b + 8) 7) (mem' (b + 14)) (mem' (b + 15))) 4 [(0, vr (b + 8)), (1, vi x), (2, vi s)] [] n ok m1 := by
    intro kz
    induction kz with
    | zero =>
      intro s x m1 hk hs hx hF hI
      exact absurd hk (by omega)
    | succ kz ih =>
      intro s x m1 hk hs hx hF hI
      have hxb := nLt_b (mem (b + 9)) s (mem (b + 8) 7).toNat
      rw [← hx] at hxb
      refine pw_iload_n 2 rfl dX1_sort_4 rfl ?_
      refine pw_bipush dX1_sort_5 (by decide) ?_
      refine pw_icmp_ge 61 (by decide) dX1_sort_7 (by omega) (by omega) (fun c7 => ?_) (fun c7 => ?_)
      · skip
        refine pw_aload_n 0 rfl dX1_sort_61 rfl ?_
        refine pw_gR 6 (b + 15) dX1_sort_62 cOk1 (by assumption) (by decide) kw_149 (by decide) rfl ?_
        refine pw_bipush dX1_sort_65 (by decide) ?_
        refine pw_iload_n 1 rfl dX1_sort_67 rfl ?_
        refine pw_iastore dX1_sort_68 (by assumption) (by omega) (by omega) (by omega) ?_
        refine pw_vret dX1_sort_69 rfl rfl ?_
        have hz : SV (mem (b + 9)) (mem (b + 8) 7) (m1 (b + 14)) (m1 (b + 15)) 15 (mem (b + 8) 7) x := by
          rcases hI with z | z
          · omega
          · rw [show (15 : Int) = s - 1 by omega]; exact z.2
        refine ⟨rfl, rfl, fun a h1 h2 => by rw [wr_a _ _ _ h2]; exact hF a h1 h2, ?_⟩
        rw [wr_a _ _ _ (by omega), wr_f]
        exact SV_fin hz hg (by omega)
      · skip
        refine pw_aload_n 0 rfl dX1_sort_10 rfl ?_
        refine pw_gR 6 (b + 15) dX1_sort_11 cOk1 (by assumption) (by decide) kw_149 (by decide) rfl ?_
        refine pw_iload_n 2 rfl dX1_sort_14 rfl ?_
        refine pw_iconst dX1_sort_15 ?_
        refine pw_iadd dX1_sort_16 ?_
        refine pw_iload_n 1 rfl dX1_sort_17 rfl ?_
        refine pw_iastore dX1_sort_18 (by assumption) (by omega) (by omega) (by omega) ?_
        obtain ⟨m2, em2⟩ : ∃ y, y = wr m1 (b + 15) (s + 1) x := ⟨_, rfl⟩
        rw [← em2]
        have hF2 : Fso b mem m2 := fun a h1 h2 => by rw [em2, wr_a _ _ _ h2]; exact hF a h1 h2
        have hSV0 : SV (mem (b + 9)) (mem (b + 8) 7) (m2 (b + 14)) (m2 (b + 15)) s 0 x := by
          rw [em2, wr_a _ _ _ (by omega), wr_f]
          rcases hI with z | z
          · rw [z.1, z.2]; exact SV_init _ _ _ _ (if_pos rfl) hg
          · have := SV_next z.2 (by omega) hg
            rw [show s - 1 + 2 = s + 1 by omega, show s - 1 + 1 = s by omega] at this
            exact this
        refine pw_iconst dX1_sort_19 ?_
        refine pw_istore_n 3 rfl dX1_sort_20 (by decide) ?_
        have lp21 : ∀ (kz2 : Nat) (k : Nat) (y : Int) (m2 : pM), (mem (b + 8) 7) - (k : Int) < (kz2 : Int) → ((k : Int) ≤ (mem (b + 8) 7)) → (y = nLt (mem (b + 9)) s (mem (b + 8) 7).toNat + nEq (mem (b + 9)) s k) → (Fso b mem m2) → (SV (mem (b + 9)) (mem (b + 8) 7) (m2 (b + 14)) (m2 (b + 15)) s k y) → PW mi_X1_sort d n n (fun r ok' mem' => r = none ∧ ok = ok' ∧ Fso b mem mem' ∧ SOr (mem (b + 9)) (mem (b + 8) 7) (mem' (b + 14)) (mem' (b + 15))) 21 [(0, vr (b + 8)), (1, vi y), (2, vi s), (3, vi (k : Int))] [] n ok m2 := by
          intro kz2
          induction kz2 with
          | zero =>
            intro k y m2 hk2 hk0 hy hF2 hSV
            exact absurd hk2 (by omega)
          | succ kz2 ih2 =>
            intro k y m2 hk2 hk0 hy hF2 hSV
            have g8 : m2 (b + 8) = mem (b + 8) := hF2 (b + 8) (by omega) (by omega)
            have g9 : m2 (b + 9) = mem (b + 9) := hF2 (b + 9) (by omega) (by omega)
            have hyb := nLt_b (mem (b + 9)) s (mem (b + 8) 7).toNat
            have hyc := nEq_b (mem (b + 9)) s k
            refine pw_iload_n 3 rfl dX1_sort_21 rfl ?_
            refine pw_aload_n 0 rfl dX1_sort_22 rfl ?_
            refine pw_gI 7 7 rfl dX1_sort_23 cOk1 (by assumption) (by decide) kw_151 (by decide) (fun r23 => ?_)
            try simp (disch := omega) only [wr_s, wr_a, wr_k] at r23 ⊢
            rw [g8] at r23 ⊢
            refine pw_icmp_ge 55 (by decide) dX1_sort_26 (by omega) (by omega) (fun c26 => ?_) (fun c26 => ?_)
            · skip
              refine pw_iinc dX1_sort_55 rfl (by decide) ?_
              refine pw_goto 4 (by decide) dX1_sort_58 ?_
              have e : (k : Int) = (mem (b + 8) 7) := by omega
              rw [e] at hSV
              exact pw_locs _ rfl (ih (s + 1) y m2 (by omega) (by omega) (by rw [hy, show k = (mem (b + 8) 7).toNat by omega]; exact nLE (mem (b + 9)) s _) hF2 (Or.inr ⟨by omega, by rw [show s + 1 - 1 = s by omega]; exact hSV⟩))
            · skip
              refine pw_aload_n 0 rfl dX1_sort_29 rfl ?_
              refine pw_gR 0 (b + 9) dX1_sort_30 cOk1 (by assumption) (by decide) kw_132 (by decide) rfl ?_
              refine pw_iload_n 3 rfl dX1_sort_33 rfl ?_
              refine pw_iaload dX1_sort_34 (by assumption) (by omega) (by omega) (fun r34 => ?_)
              try simp (disch := omega) only [wr_s, wr_a, wr_k] at r34 ⊢
              rw [g9] at r34 ⊢
              refine pw_iload_n 2 rfl dX1_sort_35 rfl ?_
              refine pw_icmp_ne 49 (by decide) dX1_sort_36 (by omega) (by omega) (fun c36 => ?_) (fun c36 => ?_)
              · skip
                refine pw_iinc dX1_sort_49 rfl (by decide) ?_
                refine pw_goto 21 (by decide) dX1_sort_52 ?_
                exact pw_locs _ rfl (ih2 (k + 1) y m2 (by omega) (by omega) (by show _ = _ + (nEq _ _ k + _); rw [if_neg c36]; omega) hF2 (SV_no hSV c36))
              · skip
                have hrm := nRoom (mem (b + 9)) s (mem (b + 8) 7).toNat k (by omega) (by omega)
                refine pw_aload_n 0 rfl dX1_sort_39 rfl ?_
                refine pw_gR 5 (b + 14) dX1_sort_40 cOk1 (by assumption) (by decide) kw_147 (by decide) rfl ?_
                refine pw_iload_n 1 rfl dX1_sort_43 rfl ?_
                refine pw_iload_n 3 rfl dX1_sort_44 rfl ?_
                refine pw_iastore dX1_sort_45 (by assumption) (by omega) (by omega) (by omega) ?_
                refine pw_iinc dX1_sort_46 rfl (by decide) ?_
                refine pw_iinc dX1_sort_49 rfl (by decide) ?_
                refine pw_goto 21 (by decide) dX1_sort_52 ?_
                exact pw_locs _ rfl (ih2 (k + 1) (y + 1) _ (by omega) (by omega) (by show _ = _ + (nEq _ _ k + _); rw [if_pos (by omega)]; omega) (fun a h1 h2 => by rw [wr_a _ _ _ h1]; exact hF2 a h1 h2) (by rw [wr_f, wr_a _ _ _ (by omega)]; exact SV_yes hSV hg (by omega) (by omega) (by omega)))
        exact pw_locs _ rfl (lp21 41 0 x m2 (by omega) (by omega) (by show x = nLt _ _ _ + 0; omega) hF2 hSV0)
  exact pw_locs _ rfl (lp4 18 (-1) 0 mem (by omega) (by omega) hx0 (fun _ _ _ => rfl) (Or.inl ⟨rfl, rfl⟩))
theorem iOr_ran (x y : Int) : -2147483648 ≤ iOr x y ∧ iOr x y ≤ 2147483647 := ⟨Int32.le_toInt _, by have := Int32.toInt_lt (Int32.ofInt x ||| Int32.ofInt y); show (Int32.ofInt x ||| Int32.ofInt y).toInt ≤ _; omega⟩
set_option maxHeartbeats 4000000 in
set_option maxRecDepth 100000 in
theorem h_pwh (d : Nat) (hd : 1 ≤ d) (n : Nat) (ok : pO) (mem : pM) (b : Nat) (hC : ChUp n ok b) (A : pM) (c : Int) (hI : cIn A c) (hR : CR A c mem b) (k : Int) (hk : 0 ≤ k ∧ k < A 94 c) : PM mi_X0_placesWhereHolds d [vr b, vi k] n ok mem n (fun r ok' mem' => ∃ T : Int, r = some (vi T) ∧ (-2147483648 ≤ T ∧ T ≤ 2147483647) ∧ ok = ok' ∧ mem = mem' ∧ ∀ a : Nat, (a : Int) < eSp A c (aLook A c k) → (tb T a = true ↔ hBp A c k a)) := by
  obtain ⟨hC0, ⟨hC1, hC2, hC3, hC4, hC5, hC6, hC7⟩, hC8, ⟨hC9, hC10, hC11, hC12, hC13, hC14, hC15⟩, hC16, hC17, hb5, hb59⟩ := id hC
  have hOk := hI.ok
  have hk9 := hI.2.2.1.2 k (by omega) (by omega)
  have hcr := hR.2.2.2 k (by omega) (by omega)
  have hl : 0 ≤ (aLook A c k) ∧ (aLook A c k) ≤ 15 := hk9.2.1
  have e10 : mem (b + 10) k = (aLook A c k) := hcr.2.1
  have e2 : mem (b + 2) (aLook A c k) = aKind A c (aLook A c k) := (hR.2.1 _ hl.1 hl.2).1
  have e3 := (hR.2.1 _ hl.1 hl.2).2.1
  have hsr := eSp_ran hOk.1.2.2 (aLook A c k) hl.1 hl.2
  have hnc := hI.2.2.1.1
  refine PM.of (by decide) (by decide) (Nat.le_refl _) (Nat.le_of_ble_eq_true rfl) ?_
  refine pw_aload_n 0 rfl dX0_placesWhereHolds_0 rfl ?_
  refine pw_gR 8 (b + 8) dX0_placesWhereHolds_1 cOk0 (by assumption) (by decide) kw_246 (by decide) rfl ?_
  refine pw_gR 1 (b + 10) dX0_placesWhereHolds_4 cOk1 (by assumption) (by decide) kw_137 (by decide) rfl ?_
  refine pw_iload_n 1 rfl dX0_placesWhereHolds_7 rfl ?_
  refine pw_iaload dX0_placesWhereHolds_8 (by assumption) (by omega) (by omega) (fun r8 => ?_)
  rw [e10] at r8 ⊢
  refine pw_istore_n 2 rfl dX0_placesWhereHolds_9 (by decide) ?_
  refine pw_aload_n 0 rfl dX0_placesWhereHolds_10 rfl ?_
  refine pw_gR 2 (b + 2) dX0_placesWhereHolds_11 cOk0 (by assumption) (by decide) kw_230 (by decide) rfl ?_
  refine pw_iload_n 2 rfl dX0_placesWhereHolds_14 rfl ?_
  refine pw_iaload dX0_placesWhereHolds_15 (by assumption) (by omega) (by omega) (fun r15 => ?_)
  rw [e2] at r15 ⊢
  refine pw_iconst dX0_placesWhereHolds_16 ?_
  refine pw_icmp_eq 30 (by decide) dX0_placesWhereHolds_17 (by omega) (by omega) (fun c17 => ?_) (fun c17 => ?_)
  · skip
    refine pw_iconst dX0_placesWhereHolds_30 ?_
    refine pw_iret dX0_placesWhereHolds_31 rfl rfl ?_
    exact ⟨0, rfl, by omega, rfl, rfl, fun a ha => ⟨fun z => absurd z (by rw [tb_0]; decide), fun z => absurd z.1 (by have := z.2.1; omega)⟩⟩
  · skip
    refine pw_aload_n 0 rfl dX0_placesWhereHolds_20 rfl ?_
    refine pw_gR 2 (b + 2) dX0_placesWhereHolds_21 cOk0 (by assumption) (by decide) kw_230 (by decide) rfl ?_
    refine pw_iload_n 2 rfl dX0_placesWhereHolds_24 rfl ?_
    refine pw_iaload dX0_placesWhereHolds_25 (by assumption) (by omega) (by omega) (fun r25 => ?_)
    rw [e2] at r25 ⊢
    refine pw_iconst dX0_placesWhereHolds_26 ?_
    refine pw_icmp_ne 32 (by decide) dX0_placesWhereHolds_27 (by omega) (by omega) (fun c27 => ?_) (fun c27 => ?_)
    · skip
      have hkn : aKind A c (aLook A c k) ≠ -1 := c17
      have hsp : eSp A c (aLook A c k) = aSpan A c (aLook A c k) := by unfold eSp; rw [if_neg hkn]
      have e3s := e3.trans hsp
      refine pw_iconst dX0_placesWhereHolds_32 ?_
      refine pw_istore_n 3 rfl dX0_placesWhereHolds_33 (by decide) ?_
      refine pw_iconst dX0_placesWhereHolds_34 ?_
      refine pw_istore dX0_placesWhereHolds_35 (by decide) ?_
      have lp37 : ∀ (kz : Nat) (a : Nat) (x : Int), eSp A c (aLook A c k) - (a : Int) < (kz : Int) → ((a : Int) ≤ eSp A c (aLook A c k)) → (-2147483648 ≤ x ∧ x ≤ 2147483647) → (∀ j : Nat, j < 32 → (tb x j = true ↔ (j < a ∧ hBp A c k j))) → PW mi_X0_placesWhereHolds d n n (fun r ok' mem' => ∃ T : Int, r = some (vi T) ∧ (-2147483648 ≤ T ∧ T ≤ 2147483647) ∧ ok = ok' ∧ mem = mem' ∧ ∀ a : Nat, (a : Int) < eSp A c (aLook A c k) → (tb T a = true ↔ hBp A c k a)) 37 [(0, vr b), (1, vi k), (2, vi (aLook A c k)), (3, vi x), (4, vi (a : Int))] [] n ok mem := by
        intro kz
        induction kz with
        | zero =>
          intro a x hk ha hx hT
          exact absurd hk (by omega)
        | succ kz ih =>
          intro a x hk ha hx hT
          refine pw_iload dX0_placesWhereHolds_37 rfl ?_
          refine pw_aload_n 0 rfl dX0_placesWhereHolds_39 rfl ?_
          refine pw_gR 3 (b + 3) dX0_placesWhereHolds_40 cOk0 (by assumption) (by decide) kw_234 (by decide) rfl ?_
          refine pw_iload_n 2 rfl dX0_placesWhereHolds_43 rfl ?_
          refine pw_iaload dX0_placesWhereHolds_44 (by assumption) (by omega) (by omega) (fun r44 => ?_)
          try simp (disch := omega) only [wr_s, wr_a, wr_k] at r44 ⊢
          rw [e3] at r44 ⊢
          refine pw_icmp_ge 108 (by decide) dX0_placesWhereHolds_45 (by omega) (by omega) (fun c45 => ?_) (fun c45 => ?_)
          · skip
            refine pw_iload_n 3 rfl dX0_placesWhereHolds_108 rfl ?_
            refine pw_iret dX0_placesWhereHolds_109 rfl rfl ?_
            exact ⟨x, rfl, hx, rfl, rfl, fun j hj => by rw [hT j (by omega)]; exact ⟨fun z => z.2, fun z => ⟨by omega, z⟩⟩⟩
          · skip
            refine pw_aload_n 0 rfl dX0_placesWhereHolds_48 rfl ?_
            refine pw_gR 2 (b + 2) dX0_placesWhereHolds_49 cOk0 (by assumption) (by decide) kw_230 (by decide) rfl ?_
            refine pw_iload_n 2 rfl dX0_placesWhereHolds_52 rfl ?_
            refine pw_iaload dX0_placesWhereHolds_53 (by assumption) (by omega) (by omega) (fun r53 => ?_)
            try simp (disch := omega) only [wr_s, wr_a, wr_k] at r53 ⊢
            rw [e2] at r53 ⊢
            refine pw_aload_n 0 rfl dX0_placesWhereHolds_54 rfl ?_
            refine pw_gR 3 (b + 3) dX0_placesWhereHolds_55 cOk0 (by assumption) (by decide) kw_234 (by decide) rfl ?_
            refine pw_iload_n 2 rfl dX0_placesWhereHolds_58 rfl ?_
            refine pw_iaload dX0_placesWhereHolds_59 (by assumption) (by omega) (by omega) (fun r59 => ?_)
            try simp (disch := omega) only [wr_s, wr_a, wr_k] at r59 ⊢
            rw [e3s] at r59 ⊢
            refine pw_iload dX0_placesWhereHolds_60 rfl ?_
            refine pw_callS (d' := d - 1) (As := [_, _, _]) dX0_placesWhereHolds_62 ok_X0_numberTold kw_220 (by omega) rfl (Nat.le_of_ble_eq_true rfl) (s_numberTold (d - 1) (by omega) n ok _ _ _ _ (by omega) (by omega) (by omega)) (Nat.le_refl _) (Or.inl rfl) (fun r ok1 mem1 hq => ?_)
            obtain ⟨rfl, rfl, rfl⟩ := hq
            have hp := hOk.1.2.2 _ hl.1 hl.2 hkn
            have htr := tel_ran (k := aKind A c (aLook A c k)) (t := (a : Int)) hp (by omega)
            refine pw_istore dX0_placesWhereHolds_65 (by decide) ?_
            refine pw_iload dX0_placesWhereHolds_67 rfl ?_
            refine pw_aload_n 0 rfl dX0_placesWhereHolds_69 rfl ?_
            refine pw_gR 8 (b + 8) dX0_placesWhereHolds_70 cOk0 (by assumption) (by decide) kw_246 (by decide) rfl ?_
            refine pw_gR 2 (b + 11) dX0_placesWhereHolds_73 cOk1 (by assumption) (by decide) kw_142 (by decide) rfl ?_
            refine pw_iload_n 1 rfl dX0_placesWhereHolds_76 rfl ?_
            refine pw_iaload dX0_placesWhereHolds_77 (by assumption) (by omega) (by omega) (fun r77 => ?_)
            try simp (disch := omega) only [wr_s, wr_a, wr_k] at r77 ⊢
            rw [hcr.2.2.1] at r77 ⊢
            refine pw_icmp_ge 102 (by decide) dX0_placesWhereHolds_78 (by omega) (by omega) (fun c78 => ?_) (fun c78 => ?_)
            · skip
              refine pw_iinc dX0_placesWhereHolds_102 rfl (by decide) ?_
              refine pw_goto 37 (by decide) dX0_placesWhereHolds_105 ?_
              have hT2 : ∀ j : Nat, j < 32 → (tb x j = true ↔ (j < a + 1 ∧ hBp A c k j)) := fun j hj => by
                rw [hT j hj]
                constructor
                · intro z; exact ⟨by omega, z.2⟩
                · intro z
                  by_cases e : j = a
                  · subst e; exact absurd z.2.2.2.1 (by have e97 : aMany A c k = A 97 (40 * c + k) := rfl; rw [e97]; omega)
                  · exact ⟨by omega, z.2⟩
              exact pw_locs _ rfl (ih (a + 1) x (by omega) (by omega) hx hT2)
            · skip
              refine pw_aload_n 0 rfl dX0_placesWhereHolds_81 rfl ?_
              refine pw_gR 8 (b + 8) dX0_placesWhereHolds_82 cOk0 (by assumption) (by decide) kw_246 (by decide) rfl ?_
              refine pw_iload_n 1 rfl dX0_placesWhereHolds_85 rfl ?_
              refine pw_iload dX0_placesWhereHolds_86 rfl ?_
              refine pw_callV (d' := d - 1) (As := [_, _]) (ci := 1) dX0_placesWhereHolds_88 ok_X1_truthAt kw_223 rfl rfl (Of.o (by assumption)) (by omega) rfl (Nat.le_of_ble_eq_true rfl) (q_truthAt (d - 1) (by omega) n ok _ b hC k _ (by omega) (by omega)) (Nat.le_refl _) (Or.inl rfl) (fun r ok1 mem1 hq => ?_)
              obtain ⟨rfl, rfl, rfl⟩ := hq
              have hbt := hcr.2.2.2 (tel (aKind A c (aLook A c k)) (aSpan A c (aLook A c k)) (a : Int)).toNat (by omega)
              rw [Int.toNat_of_nonneg htr.1] at hbt
              refine pw_iconst dX0_placesWhereHolds_91 ?_
              refine pw_icmp_ne 102 (by decide) dX0_placesWhereHolds_92 (by split <;> omega) (by omega) (fun c92 => ?_) (fun c92 => ?_)
              · skip
                refine pw_iinc dX0_placesWhereHolds_102 rfl (by decide) ?_
                refine pw_goto 37 (by decide) dX0_placesWhereHolds_105 ?_
                have hT2 : ∀ j : Nat, j < 32 → (tb x j = true ↔ (j < a + 1 ∧ hBp A c k j)) := fun j hj => by
                  rw [hT j hj]
                  constructor
                  · intro z; exact ⟨by omega, z.2⟩
                  · intro z
                    by_cases e : j = a
                    · subst e; exact absurd (hbt.mpr z.2.2.2.2) (by intro y; rw [if_pos y] at c92; omega)
                    · exact ⟨by omega, z.2⟩
                exact pw_locs _ rfl (ih (a + 1) x (by omega) (by omega) hx hT2)
              · skip
                refine pw_iload_n 3 rfl dX0_placesWhereHolds_95 rfl ?_
                refine pw_iconst dX0_placesWhereHolds_96 ?_
                refine pw_iload dX0_placesWhereHolds_97 rfl ?_
                refine pw_ishl dX0_placesWhereHolds_99 ?_
                refine pw_ior dX0_placesWhereHolds_100 ?_
                refine pw_istore_n 3 rfl dX0_placesWhereHolds_101 (by decide) ?_
                refine pw_iinc dX0_placesWhereHolds_102 rfl (by decide) ?_
                refine pw_goto 37 (by decide) dX0_placesWhereHolds_105 ?_
                have hB1 : hBp A c k a := ⟨hkn, c27, by have e97 : aMany A c k = A 97 (40 * c + k) := rfl; rw [e97]; omega, hbt.mp (by by_cases y : tb (mem (b + 12) k) (tel (aKind A c (aLook A c k)) (aSpan A c (aLook A c k)) (a : Int)).toNat = true; exact y; rw [if_neg y] at c92; omega)⟩
                have hT2 : ∀ j : Nat, j < 32 → (tb (iOr x (iShl 1 (a : Int))) j = true ↔ (j < a + 1 ∧ hBp A c k j)) := fun j hj => by
                  rw [tb_or, tb_shl 1 (a : Int) (by omega) j hj, tb_1, Bool.or_eq_true, hT j hj, Bool.and_eq_true, decide_eq_true_iff, decide_eq_true_iff]
                  constructor
                  · intro z
                    rcases z with z | z
                    · exact ⟨by omega, z.2⟩
                    · have e : j = a := by omega
                      rw [e]; exact ⟨by omega, hB1⟩
                  · intro z
                    by_cases e : j = a
                    · exact Or.inr (by omega)
                    · exact Or.inl ⟨by omega, z.2⟩
                exact pw_locs _ rfl (ih (a + 1) _ (by omega) (by omega) (iOr_ran _ _) hT2)
      exact pw_locs _ rfl (lp37 7 0 0 (by omega) (by omega) (by omega) (fun j _ => ⟨fun z => absurd z (by rw [tb_0]; decide), fun z => absurd z.1 (Nat.not_lt_zero j)⟩))
    · skip
      refine pw_iconst dX0_placesWhereHolds_30 ?_
      refine pw_iret dX0_placesWhereHolds_31 rfl rfl ?_
      exact ⟨0, rfl, by omega, rfl, rfl, fun a ha => ⟨fun z => absurd z (by rw [tb_0]; decide), fun z => absurd z.1 (by have := z.2.1; omega)⟩⟩
def stM (b : Nat) (m m1 : pM) : Prop := (∀ a, a ≠ b → a ≠ b + 6 → a ≠ b + 13 → m1 a = m a) ∧ ∀ k, k ≠ 10 → k ≠ 11 → k ≠ 12 → m1 b k = m b k
theorem stM.rf (b : Nat) (m : pM) : stM b m m := ⟨fun _ _ _ _ => rfl, fun _ _ _ _ => rfl⟩
theorem stM.w {b : Nat} {m m1 : pM} (h : stM b m m1) {k : Int} (x : Int) (hk : 10 ≤ k ∧ k ≤ 12) : stM b m (wr m1 b k x) := ⟨fun a h1 h2 h3 => by rw [wr_a _ _ _ h1]; exact h.1 a h1 h2 h3, fun j h1 h2 h3 => by rw [wr_k _ _ _ _ (by omega)]; exact h.2 j h1 h2 h3⟩
theorem stM.v {b : Nat} {m m1 : pM} (h : stM b m m1) {a : Nat} (k x : Int) (ha : a = b + 6 ∨ a = b + 13) : stM b m (wr m1 a k x) := ⟨fun d h1 h2 h3 => by rw [wr_a _ _ _ (by rcases ha with e | e <;> (rw [e]; assumption))]; exact h.1 d h1 h2 h3, fun j h1 h2 h3 => by rw [wr_a _ _ _ (by omega)]; exact h.2 j h1 h2 h3⟩
theorem pW_mono {A : pM} {c : Int} (h : pOk A c) (k j : Nat) (hk : k + j ≤ 16) : pW A c k ≤ pW A c (k + j) := by
  induction j with
  | zero => exact Int.le_refl _
  | succ j ih =>
    have a := ih (by omega)
    have p := pW_ran h (k + j) (by omega)
    have s := eSp_ran h (k + j : Nat) (by omega) (by omega)
    have e : pW A c (k + (j + 1)) = pW A c (k + j) * eSp A c (k + j : Nat) := rfl
    have := Int.mul_le_mul_of_nonneg_left s.1 (show 0 ≤ pW A c (k + j) by omega)
    rw [Int.mul_one] at this
    omega
def faN (A : pM) (c : Int) : Nat → Int
  | 0 => 0
  | s + 1 => if faN A c s ≠ 0 ∨ aKind A c s = 2 ∨ aKind A c s = 3 then 1 else 0
theorem faN_01 (A : pM) (c : Int) (k : Nat) : faN A c k = 0 ∨ faN A c k = 1 := by
  cases k with
  | zero => exact Or.inl rfl
  | succ k => unfold faN; split <;> omega
theorem faN_iff (A : pM) (c : Int) (k : Nat) : faN A c k ≠ 0 ↔ ∃ s : Int, 0 ≤ s ∧ s < k ∧ (aKind A c s = 2 ∨ aKind A c s = 3) := by
  induction k with
  | zero => exact ⟨fun h => absurd rfl h, fun ⟨j, h1, h2, _⟩ => absurd h2 (by omega)⟩
  | succ k ih =>
    unfold faN
    by_cases q : faN A c k ≠ 0 ∨ aKind A c k = 2 ∨ aKind A c k = 3
    · rw [if_pos q]
      refine ⟨fun _ => ?_, fun _ => by omega⟩
      rcases q with q | q
      · obtain ⟨j, h1, h2, h3⟩ := ih.mp q
        exact ⟨j, h1, by omega, h3⟩
      · exact ⟨k, by omega, by omega, q⟩
    · rw [if_neg q]
      refine ⟨fun z => absurd rfl z, fun ⟨j, h1, h2, h3⟩ => ?_⟩
      exfalso
      by_cases w : j = k
      · subst w; exact q (Or.inr h3)
      · exact q (Or.inl (ih.mpr ⟨j, h1, by omega, h3⟩))
theorem iOr_01 (x y : Int) (hx : x = 0 ∨ x = 1) (hy : y = 0 ∨ y = 1) : iOr x y = if x ≠ 0 ∨ y ≠ 0 then 1 else 0 := by
  rcases hx with e | e <;> rcases hy with f | f <;> (subst e; subst f; decide)
theorem CR_st {A : pM} {c : Int} {m m1 : pM} {b : Nat} (h : CR A c m b) (e : stM b m m1) : CR A c m1 b := by
  unfold CR
  rw [e.1 (b + 1) (by omega) (by omega) (by omega), e.1 (b + 2) (by omega) (by omega) (by omega), e.1 (b + 3) (by omega) (by omega) (by omega), e.1 (b + 5) (by omega) (by omega) (by omega), e.1 (b + 8) (by omega) (by omega) (by omega), e.1 (b + 9) (by omega) (by omega) (by omega), e.1 (b + 10) (by omega) (by omega) (by omega), e.1 (b + 11) (by omega) (by omega) (by omega), e.1 (b + 12) (by omega) (by omega) (by omega)]
  exact h
set_option maxHeartbeats 4000000 in
set_option maxRecDepth 100000 in
theorem h_settle (d : Nat) (hd : 2 ≤ d) (n : Nat) (ok : pO) (mem : pM) (b : Nat) (hC : ChUp n ok b) (A : pM) (c : Int) (hI : cIn A c) (hR : CR A c mem b) : PM mi_X0_settle d [vr b] n ok mem n (fun r ok' mem' => r = none ∧ ok = ok' ∧ stM b mem mem' ∧ CD A c mem' b) := by
  obtain ⟨hC0, ⟨hC1, hC2, hC3, hC4, hC5, hC6, hC7⟩, hC8, ⟨hC9, hC10, hC11, hC12, hC13, hC14, hC15⟩, hC16, hC17, hb5, hb59⟩ := id hC
  have hOk := hI.ok
  refine PM.of (by decide) (by decide) (Nat.le_refl _) (Nat.le_of_ble_eq_true rfl) ?_
  refine pw_aload_n 0 rfl dX0_settle_0 rfl ?_
  refine pw_iconst dX0_settle_1 ?_
  refine pw_pI 11 11 rfl dX0_settle_2 cOk0 (by assumption) (by decide) kw_253 rfl rfl (by decide) (by omega) ?_
  refine pw_aload_n 0 rfl dX0_settle_5 rfl ?_
  refine pw_iconst dX0_settle_6 ?_
  refine pw_pI 12 12 rfl dX0_settle_7 cOk0 (by assumption) (by decide) kw_256 rfl rfl (by decide) (by omega) ?_
  refine pw_aload_n 0 rfl dX0_settle_10 rfl ?_
  refine pw_iconst dX0_settle_11 ?_
  refine pw_pZ 10 10 rfl dX0_settle_12 cOk0 (by assumption) (by decide) kw_251 rfl rfl (by decide) (by omega) ?_
  obtain ⟨m0, em0⟩ : ∃ y, y = wr (wr (wr mem b 11 1) b 12 0) b 10 0 := ⟨_, rfl⟩
  rw [← em0]
  have hM0 : stM b mem m0 := by rw [em0]; exact (((stM.rf b mem).w 1 (by omega)).w 0 (by omega)).w 0 (by omega)
  have h11 : m0 b 11 = 1 := by rw [em0, wr_k _ _ _ _ (by omega), wr_k _ _ _ _ (by omega), wr_s]
  have h12 : m0 b 12 = 0 := by rw [em0, wr_k _ _ _ _ (by omega), wr_s]
  have h10 : m0 b 10 = 0 := by rw [em0, wr_s]
  refine pw_iconst dX0_settle_15 ?_
  refine pw_istore_n 1 rfl dX0_settle_16 (by decide) ?_
  have lp17 : ∀ (kz : Nat) (i : Nat) (m1 : pM), 16 - (i : Int) < (kz : Int) → (i ≤ 16) → (stM b mem m1) → (m1 b 11 = pW A c i) → (m1 b 12 = aParts A c i) → (m1 b 10 = faN A c i) → (∀ s : Nat, s < i → m1 (b + 6) s = pW A c s) → PW mi_X0_settle d n n (fun r ok' mem' => r = none ∧ ok = ok' ∧ stM b mem mem' ∧ CD A c mem' b) 17 [(0, vr b), (1, vi (i : Int))] [] n ok m1 := by
    intro kz
    induction kz with
    | zero =>
      intro i m1 hk h1 hM hp hq9 hf hw
      exact absurd hk (by omega)
    | succ kz ih =>
      intro i m1 hk h1 hM hp hq9 hf hw
      have g2 : m1 (b + 2) = mem (b + 2) := hM.1 (b + 2) (by omega) (by omega) (by omega)
      have g3 : m1 (b + 3) = mem (b + 3) := hM.1 (b + 3) (by omega) (by omega) (by omega)
      refine pw_iload_n 1 rfl dX0_settle_17 rfl ?_
      refine pw_bipush dX0_settle_18 (by decide) ?_
      refine pw_icmp_ge 96 (by decide) dX0_settle_20 (by omega) (by omega) (fun c20 => ?_) (fun c20 => ?_)
      · skip
        have e16 : i = 16 := by omega
        subst e16
        have hnc0 := hI.2.2.1.1
        refine pw_iconst dX0_settle_96 ?_
        refine pw_istore_n 1 rfl dX0_settle_97 (by decide) ?_
        have lp98 : ∀ (kz2 : Nat) (k : Nat) (m2 : pM), A 94 c - (k : Int) < (kz2 : Int) → ((k : Int) ≤ A 94 c) → (stM b mem m2) → (m2 b 11 = pW A c 16) → (m2 b 12 = aParts A c 16) → (m2 b 10 = faN A c 16) → (∀ s : Nat, s < 16 → m2 (b + 6) s = pW A c s) → (∀ j : Int, 0 ≤ j → j < (k : Int) → ∀ a : Nat, (a : Int) < eSp A c (A 96 (40 * c + j)) → (tb (m2 (b + 13) j) a = true ↔ hBp A c j a)) → PW mi_X0_settle d n n (fun r ok' mem' => r = none ∧ ok = ok' ∧ stM b mem mem' ∧ CD A c mem' b) 98 [(0, vr b), (1, vi (k : Int))] [] n ok m2 := by
          intro kz2
          induction kz2 with
          | zero =>
            intro k m2 hk2 hk9 hM2 hp2 hq2 hf2 hw2 hh
            exact absurd hk2 (by omega)
          | succ kz2 ih2 =>
            intro k m2 hk2 hk9 hM2 hp2 hq2 hf2 hw2 hh
            have g8 : m2 (b + 8) = mem (b + 8) := hM2.1 (b + 8) (by omega) (by omega) (by omega)
            have hR2 : CR A c m2 b := CR_st hR hM2
            have hnc := hI.2.2.1.1
            refine pw_iload_n 1 rfl dX0_settle_98 rfl ?_
            refine pw_aload_n 0 rfl dX0_settle_99 rfl ?_
            refine pw_gR 8 (b + 8) dX0_settle_100 cOk0 (by assumption) (by decide) kw_246 (by decide) rfl ?_
            refine pw_gI 7 7 rfl dX0_settle_103 cOk1 (by assumption) (by decide) kw_154 (by decide) (fun r103 => ?_)
            try simp (disch := omega) only [wr_s, wr_a, wr_k] at r103 ⊢
            rw [g8, hR.2.2.1] at r103 ⊢
            refine pw_icmp_ge 129 (by decide) dX0_settle_106 (by omega) (by omega) (fun c106 => ?_) (fun c106 => ?_)
            · skip
              refine pw_vret dX0_settle_129 rfl rfl ?_
              refine ⟨rfl, rfl, hM2, fun s hs => hw2 s (by omega), hp2, hq2, ?_, fun j j1 j2 => hh j j1 (by omega)⟩
              rw [hf2, faN_iff]
              constructor
              · intro ⟨s, s1, s2, s3⟩; exact ⟨s, s1, by omega, s3⟩
              · intro ⟨s, s1, s2, s3⟩; exact ⟨s, s1, by omega, s3⟩
            · skip
              refine pw_aload_n 0 rfl dX0_settle_109 rfl ?_
              refine pw_gR 8 (b + 8) dX0_settle_110 cOk0 (by assumption) (by decide) kw_246 (by decide) rfl ?_
              refine pw_gR 4 (b + 13) dX0_settle_113 cOk1 (by assumption) (by decide) kw_146 (by decide) rfl ?_
              refine pw_iload_n 1 rfl dX0_settle_116 rfl ?_
              refine pw_aload_n 0 rfl dX0_settle_117 rfl ?_
              refine pw_iload_n 1 rfl dX0_settle_118 rfl ?_
              refine pw_callV (d' := d - 1) (As := [_]) (ci := 0) dX0_settle_119 ok_X0_placesWhereHolds kw_216 rfl rfl (Of.o (by assumption)) (by omega) rfl (Nat.le_of_ble_eq_true rfl) (h_pwh (d - 1) (by omega) n ok m2 b hC A c hI hR2 (k : Int) (by omega)) (Nat.le_refl _) (Or.inl rfl) (fun r ok1 mem1 hq => ?_)
              obtain ⟨T, rfl, hTr, rfl, rfl, hT⟩ := hq
              refine pw_iastore dX0_settle_122 (by assumption) (by omega) (by omega) (by omega) ?_
              refine pw_iinc dX0_settle_123 rfl (by decide) ?_
              refine pw_goto 98 (by decide) dX0_settle_126 ?_
              have hh2 : ∀ j : Int, 0 ≤ j → j < ((k + 1 : Nat) : Int) → ∀ a : Nat, (a : Int) < eSp A c (A 96 (40 * c + j)) → (tb ((wr m2 (b + 13) (k : Int) T) (b + 13) j) a = true ↔ hBp A c j a) := fun j j1 j2 a ha => by
                by_cases e : j = k
                · subst e; rw [wr_s]; exact hT a ha
                · rw [wr_k _ _ _ _ e]; exact hh j j1 (by omega) a ha
              exact pw_locs _ rfl (ih2 (k + 1) _ (by omega) (by omega) (hM2.v _ _ (Or.inr rfl)) (by rw [wr_a _ _ _ (by omega)]; exact hp2) (by rw [wr_a _ _ _ (by omega)]; exact hq2) (by rw [wr_a _ _ _ (by omega)]; exact hf2) (fun s hs => by rw [wr_a _ _ _ (by omega)]; exact hw2 s hs) hh2)
        exact pw_locs _ rfl (lp98 41 0 m1 (by omega) (by omega) hM hp hq9 hf hw (fun j j1 j2 => absurd j2 (by omega)))
      · skip
        have e2 : mem (b + 2) (i : Int) = aKind A c (i : Int) := (hR.2.1 _ (by omega) (by omega)).1
        have e3 := (hR.2.1 (i : Int) (by omega) (by omega)).2.1
        have hsr := eSp_ran hOk.1.2.2 (i : Int) (by omega) (by omega)
        have hp1 := pW_ran hOk.1.2.2 i (by omega)
        have hp2 := pW_mono hOk.1.2.2 i (16 - i) (by omega)
        rw [show i + (16 - i) = 16 by omega] at hp2
        have hp3 := pW_ran hOk.1.2.2 (i + 1) (by omega)
        have hp4 := pW_mono hOk.1.2.2 (i + 1) (16 - (i + 1)) (by omega)
        rw [show i + 1 + (16 - (i + 1)) = 16 by omega] at hp4
        have hp5 : pW A c (i + 1) = pW A c i * eSp A c (i : Int) := rfl
        have hap := aParts_ran A c i
        have hk9 := hI.2.1 (i : Int) (by omega) (by omega)
        have hfn := faN_01 A c i
        have hpw := hI.2.2.2.2.2
        refine pw_aload_n 0 rfl dX0_settle_23 rfl ?_
        refine pw_gR 6 (b + 6) dX0_settle_24 cOk0 (by assumption) (by decide) kw_244 (by decide) rfl ?_
        refine pw_iload_n 1 rfl dX0_settle_27 rfl ?_
        refine pw_aload_n 0 rfl dX0_settle_28 rfl ?_
        refine pw_gI 11 11 rfl dX0_settle_29 cOk0 (by assumption) (by decide) kw_253 (by decide) (fun r29 => ?_)
        try simp (disch := omega) only [wr_s, wr_a, wr_k] at r29 ⊢
        rw [hp] at r29 ⊢
        refine pw_iastore dX0_settle_32 (by assumption) (by omega) (by omega) (by omega) ?_
        refine pw_aload_n 0 rfl dX0_settle_33 rfl ?_
        refine pw_dup dX0_settle_34 rfl ?_
        refine pw_gI 11 11 rfl dX0_settle_35 cOk0 (by assumption) (by decide) kw_253 (by decide) (fun r35 => ?_)
        rw [wr_a _ _ _ (by omega), hp] at r35 ⊢
        refine pw_aload_n 0 rfl dX0_settle_38 rfl ?_
        refine pw_gR 3 (b + 3) dX0_settle_39 cOk0 (by assumption) (by decide) kw_234 (by decide) rfl ?_
        refine pw_iload_n 1 rfl dX0_settle_42 rfl ?_
        refine pw_iaload dX0_settle_43 (by assumption) (by omega) (by omega) (fun r43 => ?_)
        rw [wr_a _ _ _ (by omega), g3, e3] at r43 ⊢
        refine pw_imul dX0_settle_44 ?_
        refine pw_pI 11 11 rfl dX0_settle_45 cOk0 (by assumption) (by decide) kw_253 rfl rfl (by decide) (by omega) ?_
        refine pw_aload_n 0 rfl dX0_settle_48 rfl ?_
        refine pw_dup dX0_settle_49 rfl ?_
        refine pw_gI 12 12 rfl dX0_settle_50 cOk0 (by assumption) (by decide) kw_256 (by decide) (fun r50 => ?_)
        rw [wr_k _ _ _ _ (by omega), wr_a _ _ _ (by omega), hq9] at r50 ⊢
        refine pw_aload_n 0 rfl dX0_settle_53 rfl ?_
        refine pw_gR 2 (b + 2) dX0_settle_54 cOk0 (by assumption) (by decide) kw_230 (by decide) rfl ?_
        refine pw_iload_n 1 rfl dX0_settle_57 rfl ?_
        refine pw_iaload dX0_settle_58 (by assumption) (by omega) (by omega) (fun r58 => ?_)
        rw [wr_a _ _ _ (by omega), wr_a _ _ _ (by omega), g2, e2] at r58 ⊢
        refine pw_iconst dX0_settle_59 ?_
        refine pw_icmp_ne 67 (by decide) dX0_settle_60 (by omega) (by omega) (fun c60 => ?_) (fun c60 => ?_)
        · skip
          have hpa : aParts A c i + 1 = aParts A c (i + 1) := by show _ = aParts A c i + _; rw [if_neg c60]
          refine pw_iconst dX0_settle_67 ?_
          refine pw_iadd dX0_settle_68 ?_
          refine pw_pI 12 12 rfl dX0_settle_69 cOk0 (by assumption) (by decide) kw_256 rfl rfl (by decide) (by omega) ?_
          obtain ⟨m4, em4⟩ : ∃ y, y = wr (wr (wr m1 (b + 6) (i : Int) (pW A c i)) b 11 (pW A c i * eSp A c (i : Int))) b 12 (aParts A c i + 1) := ⟨_, rfl⟩
          rw [← em4]
          have g10 : m4 b 10 = faN A c i := by rw [em4, wr_k _ _ _ _ (by omega), wr_k _ _ _ _ (by omega), wr_a _ _ _ (by omega), hf]
          have g2b : m4 (b + 2) = mem (b + 2) := by rw [em4, wr_a _ _ _ (by omega), wr_a _ _ _ (by omega), wr_a _ _ _ (by omega), g2]
          refine pw_aload_n 0 rfl dX0_settle_72 rfl ?_
          refine pw_dup dX0_settle_73 rfl ?_
          refine pw_gI 10 10 rfl dX0_settle_74 cOk0 (by assumption) (by decide) kw_251 (by decide) (fun r74 => ?_)
          rw [g10] at r74 ⊢
          refine pw_aload_n 0 rfl dX0_settle_77 rfl ?_
          refine pw_gR 2 (b + 2) dX0_settle_78 cOk0 (by assumption) (by decide) kw_230 (by decide) rfl ?_
          refine pw_iload_n 1 rfl dX0_settle_81 rfl ?_
          refine pw_iaload dX0_settle_82 (by assumption) (by omega) (by omega) (fun r82 => ?_)
          rw [g2b, e2] at r82 ⊢
          refine pw_callS (d' := d - 1) (As := [_]) dX0_settle_83 ok_X0_isFaller kw_213 (by omega) rfl (Nat.le_of_ble_eq_true rfl) (s_isFaller (d - 1) (by omega) n ok m4 _ (by omega)) (Nat.le_refl _) (Or.inl rfl) (fun r ok1 mem1 hq => ?_)
          obtain ⟨rfl, rfl, rfl⟩ := hq
          refine pw_ior dX0_settle_86 ?_
          have hfa : iOr (faN A c i) (if aKind A c (i : Int) = 2 ∨ aKind A c (i : Int) = 3 then 1 else 0) = faN A c (i + 1) := by
            rw [iOr_01 _ _ hfn (by split <;> omega)]
            show _ = if _ then _ else _
            by_cases q : aKind A c (i : Int) = 2 ∨ aKind A c (i : Int) = 3
            · rw [if_pos q, if_pos (Or.inr (by omega)), if_pos (Or.inr q)]
            · rw [if_neg q]
              by_cases q2 : faN A c i ≠ 0
              · rw [if_pos (Or.inl q2), if_pos (Or.inl q2)]
              · rw [if_neg (by intro z; rcases z with z | z; exact q2 z; exact z rfl), if_neg (by intro z; rcases z with z | z; exact q2 z; exact q z)]
          have hfb := faN_01 A c (i + 1)
          refine pw_pZ 10 10 rfl dX0_settle_87 cOk0 (by assumption) (by decide) kw_251 rfl rfl (by decide) (by omega) ?_
          obtain ⟨m5, em5⟩ : ∃ y, y = wr m4 b 10 (iOr (faN A c i) (if aKind A c (i : Int) = 2 ∨ aKind A c (i : Int) = 3 then 1 else 0)) := ⟨_, rfl⟩
          rw [← em5]
          refine pw_iinc dX0_settle_90 rfl (by decide) ?_
          refine pw_goto 17 (by decide) dX0_settle_93 ?_
          have hm9 : stM b mem m5 := by rw [em5, em4]; exact (((hM.v _ _ (Or.inl rfl)).w _ (by omega)).w _ (by omega)).w _ (by omega)
          have w11 : m5 b 11 = pW A c (i + 1) := by rw [em5, em4, wr_k _ _ _ _ (by omega), wr_k _ _ _ _ (by omega), wr_s]; rfl
          have w12 : m5 b 12 = aParts A c (i + 1) := by rw [em5, em4, wr_k _ _ _ _ (by omega), wr_s]; exact hpa
          have w10 : m5 b 10 = faN A c (i + 1) := by rw [em5, wr_s]; exact hfa
          have w6 : ∀ s : Nat, s < i + 1 → m5 (b + 6) s = pW A c s := fun s hs => by
            rw [em5, em4, wr_a _ _ _ (by omega), wr_a _ _ _ (by omega), wr_a _ _ _ (by omega)]
            by_cases e : s = i
            · subst e; rw [wr_s]
            · rw [wr_k _ _ _ _ (by omega)]; exact hw s (by omega)
          exact pw_locs _ rfl (ih (i + 1) m5 (by omega) (by omega) hm9 w11 w12 w10 w6)
        · skip
          have hpa : aParts A c i + 0 = aParts A c (i + 1) := by show _ = aParts A c i + _; rw [if_pos (by omega)]
          refine pw_iconst dX0_settle_63 ?_
          refine pw_goto 68 (by decide) dX0_settle_64 ?_
          refine pw_iadd dX0_settle_68 ?_
          refine pw_pI 12 12 rfl dX0_settle_69 cOk0 (by assumption) (by decide) kw_256 rfl rfl (by decide) (by omega) ?_
          obtain ⟨m4, em4⟩ : ∃ y, y = wr (wr (wr m1 (b + 6) (i : Int) (pW A c i)) b 11 (pW A c i * eSp A c (i : Int))) b 12 (aParts A c i + 0) := ⟨_, rfl⟩
          rw [← em4]
          have g10 : m4 b 10 = faN A c i := by rw [em4, wr_k _ _ _ _ (by omega), wr_k _ _ _ _ (by omega), wr_a _ _ _ (by omega), hf]
          have g2b : m4 (b + 2) = mem (b + 2) := by rw [em4, wr_a _ _ _ (by omega), wr_a _ _ _ (by omega), wr_a _ _ _ (by omega), g2]
          refine pw_aload_n 0 rfl dX0_settle_72 rfl ?_
          refine pw_dup dX0_settle_73 rfl ?_
          refine pw_gI 10 10 rfl dX0_settle_74 cOk0 (by assumption) (by decide) kw_251 (by decide) (fun r74 => ?_)
          rw [g10] at r74 ⊢
          refine pw_aload_n 0 rfl dX0_settle_77 rfl ?_
          refine pw_gR 2 (b + 2) dX0_settle_78 cOk0 (by assumption) (by decide) kw_230 (by decide) rfl ?_
          refine pw_iload_n 1 rfl dX0_settle_81 rfl ?_
          refine pw_iaload dX0_settle_82 (by assumption) (by omega) (by omega) (fun r82 => ?_)
          rw [g2b, e2] at r82 ⊢
          refine pw_callS (d' := d - 1) (As := [_]) dX0_settle_83 ok_X0_isFaller kw_213 (by omega) rfl (Nat.le_of_ble_eq_true rfl) (s_isFaller (d - 1) (by omega) n ok m4 _ (by omega)) (Nat.le_refl _) (Or.inl rfl) (fun r ok1 mem1 hq => ?_)
          obtain ⟨rfl, rfl, rfl⟩ := hq
          refine pw_ior dX0_settle_86 ?_
          have hfa : iOr (faN A c i) (if aKind A c (i : Int) = 2 ∨ aKind A c (i : Int) = 3 then 1 else 0) = faN A c (i + 1) := by
            rw [iOr_01 _ _ hfn (by split <;> omega)]
            show _ = if _ then _ else _
            by_cases q : aKind A c (i : Int) = 2 ∨ aKind A c (i : Int) = 3
            · rw [if_pos q, if_pos (Or.inr (by omega)), if_pos (Or.inr q)]
            · rw [if_neg q]
              by_cases q2 : faN A c i ≠ 0
              · rw [if_pos (Or.inl q2), if_pos (Or.inl q2)]
              · rw [if_neg (by intro z; rcases z with z | z; exact q2 z; exact z rfl), if_neg (by intro z; rcases z with z | z; exact q2 z; exact q z)]
          have hfb := faN_01 A c (i + 1)
          refine pw_pZ 10 10 rfl dX0_settle_87 cOk0 (by assumption) (by decide) kw_251 rfl rfl (by decide) (by omega) ?_
          obtain ⟨m5, em5⟩ : ∃ y, y = wr m4 b 10 (iOr (faN A c i) (if aKind A c (i : Int) = 2 ∨ aKind A c (i : Int) = 3 then 1 else 0)) := ⟨_, rfl⟩
          rw [← em5]
          refine pw_iinc dX0_settle_90 rfl (by decide) ?_
          refine pw_goto 17 (by decide) dX0_settle_93 ?_
          have hm9 : stM b mem m5 := by rw [em5, em4]; exact (((hM.v _ _ (Or.inl rfl)).w _ (by omega)).w _ (by omega)).w _ (by omega)
          have w11 : m5 b 11 = pW A c (i + 1) := by rw [em5, em4, wr_k _ _ _ _ (by omega), wr_k _ _ _ _ (by omega), wr_s]; rfl
          have w12 : m5 b 12 = aParts A c (i + 1) := by rw [em5, em4, wr_k _ _ _ _ (by omega), wr_s]; exact hpa
          have w10 : m5 b 10 = faN A c (i + 1) := by rw [em5, wr_s]; exact hfa
          have w6 : ∀ s : Nat, s < i + 1 → m5 (b + 6) s = pW A c s := fun s hs => by
            rw [em5, em4, wr_a _ _ _ (by omega), wr_a _ _ _ (by omega), wr_a _ _ _ (by omega)]
            by_cases e : s = i
            · subst e; rw [wr_s]
            · rw [wr_k _ _ _ _ (by omega)]; exact hw s (by omega)
          exact pw_locs _ rfl (ih (i + 1) m5 (by omega) (by omega) hm9 w11 w12 w10 w6)
  exact pw_locs _ rfl (lp17 17 0 m0 (by omega) (by omega) hM0 h11 h12 h10 (fun s hs => absurd hs (Nat.not_lt_zero s)))
