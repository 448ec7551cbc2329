/-! ===== the class: the search goes on ===== -/
def Ex (S : pM) (tk j : Int) : Int → Int → Prop := fun f t => f ≠ t ∧ 0 ≤ f ∧ 0 ≤ t ∧ ∃ i, 0 ≤ i ∧ i < 38 ∧ (f < tk ∨ (f = tk ∧ i < j)) ∧ S 114 (38 * f + i) = t
theorem Ex_le {S : pM} {tk j f t : Int} (h : Ex S tk j f t) : f ≤ tk := by obtain ⟨_, _, _, i, _, _, z, _⟩ := h; omega
theorem Ex_next (S : pM) (tk f t : Int) : Ex S tk 38 f t ↔ Ex S (tk + 1) 0 f t := by
  constructor
  · rintro ⟨h1, h2, h3, i, i1, i2, i3, i4⟩; exact ⟨h1, h2, h3, i, i1, i2, by omega, i4⟩
  · rintro ⟨h1, h2, h3, i, i1, i2, i3, i4⟩; exact ⟨h1, h2, h3, i, i1, i2, by omega, i4⟩
theorem Ex_c {S S2 : pM} (h : S2 114 = S 114) (tk j f t : Int) : Ex S tk j f t ↔ Ex S2 tk j f t := by unfold Ex; rw [h]
theorem Ex_skip {S : pM} {tk j w : Int} (hj : 0 ≤ j ∧ j < 38) (hw : w = -1 ∨ w = tk) (f t : Int) : Ex S tk j f t ↔ Ex (wr S 114 (38 * tk + j) w) tk (j + 1) f t := by
  constructor
  · rintro ⟨h1, h2, h3, i, i1, i2, i3, i4⟩
    exact ⟨h1, h2, h3, i, i1, i2, by omega, by rw [wr_k _ _ _ _ (by omega)]; exact i4⟩
  · rintro ⟨h1, h2, h3, i, i1, i2, i3, i4⟩
    by_cases e : f = tk ∧ i = j
    · rw [e.1, e.2, wr_s] at i4; omega
    · rw [wr_k _ _ _ _ (by omega)] at i4
      exact ⟨h1, h2, h3, i, i1, i2, by omega, i4⟩
theorem Ex_add {S : pM} {tk j w : Int} (h0 : 0 ≤ tk) (hj : 0 ≤ j ∧ j < 38) (hw : 0 ≤ w) (hn : w ≠ tk) (f t : Int) : (Ex S tk j f t ∨ (f = tk ∧ t = w)) ↔ Ex (wr S 114 (38 * tk + j) w) tk (j + 1) f t := by
  constructor
  · intro z
    rcases z with ⟨h1, h2, h3, i, i1, i2, i3, i4⟩ | ⟨z1, z2⟩
    · exact ⟨h1, h2, h3, i, i1, i2, by omega, by rw [wr_k _ _ _ _ (by omega)]; exact i4⟩
    · subst z1; subst z2; exact ⟨fun q => hn q.symm, h0, hw, j, hj.1, hj.2, by omega, wr_s _ _ _ _⟩
  · rintro ⟨h1, h2, h3, i, i1, i2, i3, i4⟩
    by_cases e : f = tk ∧ i = j
    · rw [e.1, e.2, wr_s] at i4; exact Or.inr ⟨e.1, i4.symm⟩
    · rw [wr_k _ _ _ _ (by omega)] at i4
      exact Or.inl ⟨h1, h2, h3, i, i1, i2, by omega, i4⟩
def isNew (A : pM) (c x j : Int) : Prop := mvN A c x j ≠ -1 ∧ mvN A c x j ≠ x ∧ ∀ i, 0 ≤ i → i < j → mvN A c x i ≠ mvN A c x j
noncomputable def adG (A : pM) (c x : Int) : Nat → Int
  | 0 => 0
  | j + 1 => adG A c x j + @ite Int (isNew A c x j) (Classical.propDecidable _) 1 0
theorem adG_s (A : pM) (c x : Int) (j : Nat) : (isNew A c x j ∧ adG A c x (j + 1) = adG A c x j + 1) ∨ (¬ isNew A c x j ∧ adG A c x (j + 1) = adG A c x j) := by
  by_cases q : isNew A c x j
  · exact Or.inl ⟨q, by show _ + _ = _; rw [if_pos q]⟩
  · exact Or.inr ⟨q, by show _ + _ = _; rw [if_neg q, Int.add_zero]⟩
theorem adG_y {A : pM} {c x : Int} {j : Nat} (h : isNew A c x j) : adG A c x (j + 1) = adG A c x j + 1 := by
  rcases adG_s A c x j with z | z
  · exact z.2
  · exact absurd h z.1
theorem adG_m (A : pM) (c x : Int) (j k : Nat) : adG A c x j ≤ adG A c x (j + k) := by
  induction k with
  | zero => exact Int.le_refl _
  | succ k ih => have := adG_s A c x (j + k); have e : j + (k + 1) = j + k + 1 := rfl; rw [e]; omega
def dgOk (A : pM) (c : Int) : Prop := ∀ x, 0 ≤ x → x < pW A c 16 → adG A c x 38 ≤ 12
def FOx (S : pM) (k f : Int) : Prop := (f = -1 ∧ ∀ o, 0 ≤ o → o < k → S 111 o = 0) ∨ (0 ≤ f ∧ f < k ∧ S 111 f ≠ 0 ∧ ∀ o, 0 ≤ o → o < f → S 111 o = 0)
theorem FOx_s {S : pM} {k f : Int} (h : FOx S k f) (hk : 0 ≤ k) : FOx S (k + 1) (if S 111 k ≠ 0 ∧ f = -1 then k else f) := by
  by_cases q : S 111 k ≠ 0 ∧ f = -1
  · rw [if_pos q]
    rcases h with z | z
    · exact Or.inr ⟨hk, by omega, q.1, z.2⟩
    · omega
  · rw [if_neg q]
    rcases h with z | z
    · refine Or.inl ⟨z.1, fun o o1 o2 => ?_⟩
      by_cases e : o = k
      · rw [e]; omega
      · exact z.2 o o1 (by omega)
    · exact Or.inr ⟨z.1, by omega, z.2.2⟩
theorem FOx_u {S : pM} {k f g : Int} (h : FOx S k f) (h2 : FOx S k g) : f = g := by
  rcases h with z | z <;> rcases h2 with w | w
  · omega
  · exact absurd (z.2 g w.1 w.2.1) w.2.2.1
  · exact absurd (w.2 f z.1 z.2.1) z.2.2.1
  · rcases Int.lt_trichotomy f g with y | y | y
    · exact absurd (w.2.2.2 f z.1 y) z.2.2.1
    · exact y
    · exact absurd (z.2.2.2 g w.1 y) w.2.2.1
theorem FOx_c {S S2 : pM} {k f : Int} (h : FOx S k f) (e : ∀ o, 0 ≤ o → o < k → S2 111 o = S 111 o) : FOx S2 k f := by
  rcases h with z | z
  · exact Or.inl ⟨z.1, fun o o1 o2 => by rw [e o o1 o2]; exact z.2 o o1 o2⟩
  · exact Or.inr ⟨z.1, z.2.1, by rw [e f z.1 z.2.1]; exact z.2.2.1, fun o o1 o2 => by rw [e o o1 (by omega)]; exact z.2.2.2 o o1 o2⟩
def FA (S m : pM) (k : Int) : Prop := ∀ o, 0 ≤ o → o < k → m 129 o = if S 111 o ≠ 0 then 0 else -1
def SRB (S m : pM) : Prop := SRm S m ∧ FA S m (S 88 34) ∧ m 123 15 = S 88 36 ∧ RDx (Ex S (S 88 35) 0) m ∧ m 131 2 ≤ 12 * S 88 35
def FrK (b : Nat) (m m1 : pM) : Prop := (∀ a, a ≠ b + 4 → a ≠ b + 7 → (a < 123 ∨ 133 < a) → m1 a = m a) ∧ ∀ k, k ≠ 13 → k ≠ 14 → k ≠ 15 → m1 123 k = m 123 k
theorem FrK.rf (b : Nat) (m : pM) : FrK b m m := ⟨fun _ _ _ _ => rfl, fun _ _ _ _ => rfl⟩
theorem FrK.tr {b : Nat} {m m1 m2 : pM} (h : FrK b m m1) (g : FrK b m1 m2) : FrK b m m2 := ⟨fun a h1 h2 h3 => (g.1 a h1 h2 h3).trans (h.1 a h1 h2 h3), fun k h1 h2 h3 => (g.2 k h1 h2 h3).trans (h.2 k h1 h2 h3)⟩
theorem FrK.s {b : Nat} {m m1 : pM} (h : FrW (b + 4) m m1) (hb : b ≤ 59) : FrK b m m1 := ⟨fun a h1 _ _ => h a h1, fun k _ _ _ => by rw [h 123 (by omega)]⟩
theorem FrK.n {b : Nat} {m m1 : pM} (h : Fr2 b m m1) (hb : b ≤ 59) : FrK b m m1 := ⟨fun a h1 h2 _ => h a h1 h2, fun k _ _ _ => by rw [h 123 (by omega) (by omega)]⟩
theorem FrK.c {b : Nat} {m m1 : pM} (h : FrC m m1) : FrK b m m1 := ⟨fun a _ _ h3 => h.1 a (by omega), fun k h1 _ _ => h.2 k h1⟩
theorem FrK.cs {A : pM} {c : Int} {b : Nat} {m m1 : pM} (h : FrK b m m1) (hb : b ≤ 59) (hS : CS A c m b) : CS A c m1 b := hS.m (fun a h1 h2 h3 h4 => h.1 a h3 h4 (by omega))
theorem SRm.m {S m m1 : pM} (h : SRm S m) (e13 : m1 123 13 = m 123 13) (e14 : m1 123 14 = m 123 14) (e : ∀ a, 124 ≤ a → a ≤ 128 → m1 a = m a) : SRm S m1 := by
  unfold SRm
  rw [e13, e14, e 124 (by omega) (by omega), e 125 (by omega) (by omega), e 126 (by omega) (by omega), e 127 (by omega) (by omega), e 128 (by omega) (by omega)]
  exact h
theorem SRm.S {S S2 m : pM} (h : SRm S m) (e34 : S2 88 34 = S 88 34) (e35 : S2 88 35 = S 88 35) (e : ∀ a, a = 108 ∨ a = 109 ∨ a = 110 ∨ a = 112 ∨ a = 113 → S2 a = S a) : SRm S2 m := by
  unfold SRm
  rw [e34, e35, e 108 (by omega), e 109 (by omega), e 110 (by omega), e 112 (by omega), e 113 (by omega)]
  exact h
theorem wr_a2 (m : pM) {a e : Nat} (k x j : Int) (h : e ≠ a) : wr m a k x e j = m e j := by rw [wr_a _ _ _ h]
theorem lfM_v (m : pM) (k op : Int) : (∀ a, a ≠ 123 → a ≠ 129 → lfM m k op a = m a) ∧ (∀ j, j ≠ 15 → lfM m k op 123 j = m 123 j) ∧ lfM m k op 129 k = (if op ≠ 0 then 0 else -1) ∧ (∀ o, o ≠ k → lfM m k op 129 o = m 129 o) ∧ lfM m k op 123 15 = if op ≠ 0 ∧ m 123 15 = -1 then k else m 123 15 := by
  unfold lfM
  by_cases q : op ≠ 0 ∧ m 123 15 = -1
  · rw [if_pos q, if_pos q, if_pos q.1]
    refine ⟨fun a h1 h2 => by rw [wr_a _ _ _ h1, wr_a _ _ _ h2], fun j h1 => by rw [wr_k _ _ _ _ h1, wr_a _ _ _ (by omega)], by rw [wr_a _ _ _ (by omega), wr_s], fun o h1 => by rw [wr_a _ _ _ (by omega), wr_k _ _ _ _ h1], wr_s _ _ _ _⟩
  · rw [if_neg q, if_neg q]
    exact ⟨fun a h1 h2 => wr_a _ _ _ h2, fun j h1 => wr_a2 _ _ _ _ (by omega), wr_s _ _ _ _, fun o h1 => wr_k _ _ _ _ h1, wr_a2 _ _ _ _ (by omega)⟩
set_option maxHeartbeats 4000000 in
set_option maxRecDepth 100000 in
theorem y_takeNext (d : Nat) (hd : 5 ≤ d) (n : Nat) (ok : pO) (mem : pM) (hN : NUp n ok) (b : Nat) (hC : ChUp n ok b) (A : pM) (c : Int) (v : Int → Int) (hI : cIn A c) (hS : CS A c mem b) (hV : CV A c mem b v) (hv : pOkv A c v) (hU : SUp n ok) (hch : mem 123 8 = (b : Int)) (S : pM) (hGI : GI A c S) (hSB : SRB S mem) (hdg : dgOk A c) (htk : S 88 35 < S 88 34) (ht : 0 ≤ mem 2 1 ∧ mem 2 1 ≤ 600000000) : PM mi_X7_takeNext d [vr 123] n ok mem n (fun r ok' mem' => r = none ∧ ok = ok' ∧ SRB (tkB A c S) mem' ∧ (∃ v2, CV A c mem' b v2 ∧ pOkv A c v2) ∧ FrK b mem mem') := by
  obtain ⟨hN5, hN3⟩ := id hN
  obtain ⟨hC0, ⟨hC1, hC2, hC3, hC4, hC5, hC6, hC7⟩, hC8, ⟨hC9, hC10, hC11, hC12, hC13, hC14, hC15⟩, hC16, hC17, hb5, hb59⟩ := id hC
  obtain ⟨hR, hD, hSo⟩ := id hS
  have hOk := hI.ok
  obtain ⟨hT7, ⟨q124, q125, q126, q127, q128, q129, q130⟩, hT6, q132, q133⟩ := id hU
  obtain ⟨hSR, hFA, h15, hRD, hRn⟩ := id hSB
  have h0q := hGI.1.1.1
  refine PM.of (by decide) (by decide) (Nat.le_refl _) (Nat.le_of_ble_eq_true rfl) ?_
  refine pw_aload_n 0 rfl dX7_takeNext_0 rfl ?_
  refine pw_gR 0 124 dX7_takeNext_1 cOk7 (by assumption) (by decide) kw_553 (by decide) rfl ?_
  refine pw_aload_n 0 rfl dX7_takeNext_4 rfl ?_
  refine pw_gI 14 14 rfl dX7_takeNext_5 cOk7 (by assumption) (by decide) kw_575 (by decide) (fun r5 => ?_)
  rw [hSR.2.1] at r5 ⊢
  refine pw_iaload dX7_takeNext_8 (by assumption) (by omega) (by omega) (fun r8 => ?_)
  rw [(hSR.2.2.1 (S 88 35) (by omega) (by omega)).1] at r8 ⊢
  have hx9 := hGI.1.1.2.1 (S 88 35) (by omega) (by omega)
  have hxp := hGI.1.2.1 (S 88 35) (by omega) (by omega)
  refine pw_istore_n 1 rfl dX7_takeNext_9 (by decide) ?_
  refine pw_aload_n 0 rfl dX7_takeNext_10 rfl ?_
  refine pw_gI 13 13 rfl dX7_takeNext_11 cOk7 (by assumption) (by decide) kw_573 (by decide) (fun r11 => ?_)
  rw [hSR.1] at r11 ⊢
  refine pw_istore_n 2 rfl dX7_takeNext_14 (by decide) ?_
  refine pw_aload_n 0 rfl dX7_takeNext_15 rfl ?_
  refine pw_gV 8 8 b rfl dX7_takeNext_16 cOk7 (by assumption) (by decide) kw_565 (by decide) hch ?_
  refine pw_iload_n 1 rfl dX7_takeNext_19 rfl ?_
  refine pw_callV (d' := d - 1) (As := [_]) (ci := 0) dX7_takeNext_20 ok_X0_standAt kw_691 rfl rfl (Of.o (by assumption)) (by omega) rfl (Nat.le_of_ble_eq_true rfl) (h_standAt (d - 1) (by omega) n ok mem hN b hC A c v hI hS hV hv (S 108 (S 88 35)) (by omega)) (Nat.le_refl _) (Or.inl rfl) (fun r9 ok1 m0 hq => ?_)
  obtain ⟨rfl, rfl, hF0, hV0⟩ := hq
  have hv1 : pOkv A c (setV A c v (S 108 (S 88 35))) := setV_ok hOk.1.2.2 v _
  have hnum : numV A c (setV A c v (S 108 (S 88 35))) 16 = (S 108 (S 88 35)) := numV_setx hOk.1.2.2 v (by omega) hxp
  have hFK0 := FrK.s hF0 hb59
  have g0 : ∀ a, a ≠ b + 4 → m0 a = mem a := hF0
  have hdx := hdg (S 108 (S 88 35)) (by omega) hxp
  refine pw_iconst dX7_takeNext_23 ?_
  refine pw_istore_n 3 rfl dX7_takeNext_24 (by decide) ?_
  have lp25 : ∀ (kz : Nat) (j : Nat) (S2 m1 : pM), 38 - (j : Int) < (kz : Int) → (j ≤ 38) → (SRm S2 m1) → ((lmB A c S (S 88 35) (S 108 (S 88 35)) j) = S2) → (RDx (Ex S2 (S 88 35) (j : Int)) m1) → (m1 131 2 ≤ 12 * (S 88 35) + adG A c (S 108 (S 88 35)) j) → (CV A c m1 b (setV A c v (S 108 (S 88 35)))) → (FrK b mem m1) → (m1 123 15 = mem 123 15) → (m1 129 = mem 129) → (m1 123 14 = (S 88 35)) → PW mi_X7_takeNext d n n (fun r ok' mem' => r = none ∧ ok = ok' ∧ SRB (tkB A c S) mem' ∧ (∃ v2, CV A c mem' b v2 ∧ pOkv A c v2) ∧ FrK b mem mem') 25 [(0, vr 123), (1, vi (S 108 (S 88 35))), (2, vi (S 88 34)), (3, vi (j : Int))] [] n ok m1 := by
    intro kz
    induction kz with
    | zero =>
      intro j S2 m1 hk hj hm he hRD1 hRn1 hV1 hF1 h15a h129 h14a
      exact absurd hk (by omega)
    | succ kz ih =>
      intro j S2 m1 hk hj hm he hRD1 hRn1 hV1 hF1 h15a h129 h14a
      have hL := LI_n hOk.1 hOk.2.2 hGI htk j hj
      rw [he] at hL
      have hS1 := hF1.cs hb59 hS
      have hch1 : m1 123 8 = (b : Int) := by rw [hF1.2 8 (by omega) (by omega) (by omega)]; exact hch
      have hL34 := hL.2.2.1.1
      have hL108 : S2 108 (S 88 35) = (S 108 (S 88 35)) := (hL.2.2.1.2.2 (S 88 35) htk).1
      have hLq := hL.1.1.1
      have hLq1 := hLq.1
      have hs35 : S2 88 35 = (S 88 35) := hL.2.1
      refine pw_iload_n 3 rfl dX7_takeNext_25 rfl ?_
      refine pw_bipush dX7_takeNext_26 (by decide) ?_
      refine pw_icmp_ge 89 (by decide) dX7_takeNext_28 (by omega) (by omega) (fun c28 => ?_) (fun c28 => ?_)
      · skip
        have ej : j = 38 := by omega
        subst ej
        refine pw_aload_n 0 rfl dX7_takeNext_89 rfl ?_
        refine pw_dup dX7_takeNext_90 rfl ?_
        refine pw_gI 14 14 rfl dX7_takeNext_91 cOk7 (by assumption) (by decide) kw_575 (by decide) (fun r91 => ?_)
        try simp (disch := omega) only [wr_s, wr_a, wr_k] at r91 ⊢
        rw [h14a] at r91 ⊢
        refine pw_iconst dX7_takeNext_94 ?_
        refine pw_iadd dX7_takeNext_95 ?_
        refine pw_pI 14 14 rfl dX7_takeNext_96 cOk7 (by assumption) (by decide) kw_575 rfl rfl (by decide) (by omega) ?_
        obtain ⟨m6, em6⟩ : ∃ y, y = wr m1 123 14 ((S 88 35) + 1) := ⟨_, rfl⟩
        rw [← em6]
        have g6 : ∀ a, a ≠ 123 → m6 a = m1 a := fun a ha => by rw [em6]; exact wr_a _ _ _ ha
        have f6 : ∀ k, k ≠ 14 → m6 123 k = m1 123 k := fun k hk => by rw [em6]; exact wr_k _ _ _ _ hk
        obtain ⟨S9, eS9⟩ : ∃ y, y = tkB A c S := ⟨_, rfl⟩
        have eS9b : S9 = wr S2 88 35 ((S 88 35) + 1) := by rw [eS9]; unfold tkB; rw [he]
        have hGI9 := GI_tk hOk.1 hOk.2.2 hGI htk
        rw [← eS9] at hGI9
        have a9 : ∀ a, a ≠ 88 → S9 a = S2 a := fun a ha => by rw [eS9b]; exact wr_a _ _ _ ha
        have k9 : ∀ k, k ≠ 35 → S9 88 k = S2 88 k := fun k hk => by rw [eS9b]; exact wr_k _ _ _ _ hk
        have k35 : S9 88 35 = (S 88 35) + 1 := by rw [eS9b, wr_s]
        have hm6 : SRm S9 m6 := by
          unfold SRm
          rw [k35, k9 34 (by omega), a9 108 (by omega), a9 109 (by omega), a9 110 (by omega), a9 112 (by omega), a9 113 (by omega), f6 13 (by omega), g6 124 (by omega), g6 125 (by omega), g6 126 (by omega), g6 127 (by omega), g6 128 (by omega), em6, wr_s]
          exact ⟨hm.1, rfl, hm.2.2⟩
        have hRD6 : RDx (Ex S9 (S9 88 35) 0) m6 := by
          rw [k35]
          refine RDx.c (RDx.m hRD1 (by rw [g6 _ (by omega)]) (g6 _ (by omega)) (g6 _ (by omega))) (fun f t => ?_)
          rw [← Ex_next, ← Ex_c (a9 114 (by omega))]; exact Iff.rfl
        have hRn6 : m6 131 2 ≤ 12 * S9 88 35 := by rw [k35, g6 _ (by omega)]; omega
        have hF6 : FrK b mem m6 := hF1.tr ⟨fun a _ _ h3 => g6 a (by omega), fun k _ h2 _ => f6 k h2⟩
        have hSE9 := hGI9.2.1.1
        have hFA6 : FA S9 m6 (S 88 34) := fun o o1 o2 => by rw [g6 129 (by omega), h129, hFA o o1 o2, (hGI9.2.1.2.2 o o2).2.1]
        have hFO6 : FOx S9 (S 88 34) (m6 123 15) := by
          rw [f6 15 (by omega), h15a, h15]
          exact FOx_c (show FOx S (S 88 34) (S 88 36) from hGI.1.2.2.2) (fun o o1 o2 => (hGI9.2.1.2.2 o o2).2.1)
        have h9q := hGI9.1.1.1.1
        have hV6 : CV A c m6 b (setV A c v (S 108 (S 88 35))) := hV1.m (g6 _ (by omega))
        refine pw_iload_n 2 rfl dX7_takeNext_99 rfl ?_
        refine pw_istore_n 3 rfl dX7_takeNext_100 (by decide) ?_
        have lp101 : ∀ (kz2 : Nat) (k : Int) (v2 : Int → Int) (m7 : pM), S9 88 34 - k < (kz2 : Int) → (S 88 34 ≤ k ∧ k ≤ S9 88 34) → (SRm S9 m7) → (RDx (Ex S9 (S9 88 35) 0) m7) → (m7 131 2 ≤ 12 * S9 88 35) → (FrK b mem m7) → (FA S9 m7 k) → (FOx S9 k (m7 123 15)) → (CV A c m7 b v2) → (pOkv A c v2) → PW mi_X7_takeNext d n n (fun r ok' mem' => r = none ∧ ok = ok' ∧ SRB (tkB A c S) mem' ∧ (∃ v2, CV A c mem' b v2 ∧ pOkv A c v2) ∧ FrK b mem mem') 101 [(0, vr 123), (1, vi (S 108 (S 88 35))), (2, vi (S 88 34)), (3, vi k)] [] n ok m7 := by
          intro kz2
          induction kz2 with
          | zero =>
            intro k v2 m7 hk2 hk2 hm7 hRD7 hRn7 hF7 hFA7 hFO7 hV7 hv7
            exact absurd hk2 (by omega)
          | succ kz2 ih2 =>
            intro k v2 m7 hk2 hk2 hm7 hRD7 hRn7 hF7 hFA7 hFO7 hV7 hv7
            have hch7 : m7 123 8 = (b : Int) := by rw [hF7.2 8 (by omega) (by omega) (by omega)]; exact hch
            have hS7 := hF7.cs hb59 hS
            refine pw_iload_n 3 rfl dX7_takeNext_101 rfl ?_
            refine pw_aload_n 0 rfl dX7_takeNext_102 rfl ?_
            refine pw_gI 13 13 rfl dX7_takeNext_103 cOk7 (by assumption) (by decide) kw_573 (by decide) (fun r103 => ?_)
            try simp (disch := omega) only [wr_s, wr_a, wr_k] at r103 ⊢
            rw [hm7.1] at r103 ⊢
            refine pw_icmp_ge 133 (by decide) dX7_takeNext_106 (by omega) (by omega) (fun c106 => ?_) (fun c106 => ?_)
            · skip
              have ek : k = S9 88 34 := by omega
              subst ek
              refine pw_vret dX7_takeNext_133 rfl rfl ?_
              rw [← eS9]
              refine ⟨rfl, rfl, ⟨hm7, hFA7, ?_, hRD7, hRn7⟩, ⟨v2, hV7, hv7⟩, hF7⟩
              exact FOx_u hFO7 (show FOx S9 (S9 88 34) (S9 88 36) from hGI9.1.1.2.2.2)
            · skip
              have hk9 := hGI9.1.1.1.2.1 k (by omega) (by omega)
              have hk8 := hGI9.1.1.2.2.1 k (by omega) (by omega)
              refine pw_aload_n 0 rfl dX7_takeNext_109 rfl ?_
              refine pw_gV 8 8 b rfl dX7_takeNext_110 cOk7 (by assumption) (by decide) kw_565 (by decide) hch7 ?_
              refine pw_aload_n 0 rfl dX7_takeNext_113 rfl ?_
              refine pw_gR 0 124 dX7_takeNext_114 cOk7 (by assumption) (by decide) kw_553 (by decide) rfl ?_
              refine pw_iload_n 3 rfl dX7_takeNext_117 rfl ?_
              refine pw_iaload dX7_takeNext_118 (by assumption) (by omega) (by omega) (fun r118 => ?_)
              try simp (disch := omega) only [wr_s, wr_a, wr_k] at r118 ⊢
              rw [(hm7.2.2.1 k (by omega) (by omega)).1] at r118 ⊢
              refine pw_callV (d' := d - 1) (As := [_]) (ci := 0) dX7_takeNext_119 ok_X0_standAt kw_691 rfl rfl (Of.o (by assumption)) (by omega) rfl (Nat.le_of_ble_eq_true rfl) (h_standAt (d - 1) (by omega) n ok m7 hN b hC A c v2 hI hS7 hV7 hv7 (S9 108 k) (by omega)) (Nat.le_refl _) (Or.inl rfl) (fun r9 ok1 m8 hq => ?_)
              obtain ⟨rfl, rfl, hF8, hV8⟩ := hq
              have g8 : ∀ a, a ≠ b + 4 → m8 a = m7 a := hF8
              have hFK8 := hF7.tr (FrK.s hF8 hb59)
              have hS8 := hFK8.cs hb59 hS
              have hch8 : m8 123 8 = (b : Int) := by rw [g8 _ (by omega)]; exact hch7
              have hv8 : pOkv A c (setV A c v2 (S9 108 k)) := setV_ok hOk.1.2.2 v2 _
              refine pw_aload_n 0 rfl dX7_takeNext_122 rfl ?_
              refine pw_iload_n 3 rfl dX7_takeNext_123 rfl ?_
              refine pw_callV (d' := d - 1) (As := [_]) (ci := 7) dX7_takeNext_124 ok_X7_lookForOpen kw_654 rfl rfl (Of.o (by assumption)) (by omega) rfl (Nat.le_of_ble_eq_true rfl) (y_look (d - 1) (by omega) n ok m8 hN b hC A c (setV A c v2 (S9 108 k)) hI hS8 hV8 hv8 hU hch8 k (by omega) (by rw [hFK8.1 2 (by omega) (by omega) (by omega)]; omega)) (Nat.le_refl _) (Or.inl rfl) (fun r9 ok1 m9 hq => ?_)
              obtain ⟨rfl, rfl, em9⟩ := hq
              rw [← opN_v hOk.1 v2 (S9 108 k), ← hk8] at em9
              have hlf := lfM_v m8 k (S9 111 k)
              rw [em9] at hlf
              have hm9 : SRm S9 m9 := (hm7.m (by rw [g8 _ (by omega)]) (by rw [g8 _ (by omega)]) (fun a h1 h2 => g8 a (by omega))).m (hlf.2.1 13 (by omega)) (hlf.2.1 14 (by omega)) (fun a h1 h2 => hlf.1 a (by omega) (by omega))
              have hRD9 : RDx (Ex S9 (S9 88 35) 0) m9 := hRD7.m (by rw [hlf.1 _ (by omega) (by omega), g8 _ (by omega)]) (by rw [hlf.1 _ (by omega) (by omega), g8 _ (by omega)]) (by rw [hlf.1 _ (by omega) (by omega), g8 _ (by omega)])
              have hRn9 : m9 131 2 ≤ 12 * S9 88 35 := by rw [hlf.1 _ (by omega) (by omega), g8 _ (by omega)]; exact hRn7
              have hF9 : FrK b mem m9 := hFK8.tr ⟨fun a _ _ h3 => hlf.1 a (by omega) (by omega), fun k _ _ h3 => hlf.2.1 k h3⟩
              have hFA9 : FA S9 m9 (k + 1) := fun o o1 o2 => by
                by_cases e : o = k
                · subst e; exact hlf.2.2.1
                · rw [hlf.2.2.2.1 o e, g8 _ (by omega)]; exact hFA7 o o1 (by omega)
              have hFO9 : FOx S9 (k + 1) (m9 123 15) := by
                rw [hlf.2.2.2.2, g8 _ (by omega)]; exact FOx_s hFO7 (by omega)
              have hV9 : CV A c m9 b (setV A c v2 (S9 108 k)) := hV8.m (hlf.1 _ (by omega) (by omega))
              refine pw_iinc dX7_takeNext_127 rfl (by decide) ?_
              refine pw_goto 101 (by decide) dX7_takeNext_130 ?_
              exact pw_locs _ rfl (ih2 (k + 1) (setV A c v2 (S9 108 k)) m9 (by omega) (by omega) hm9 hRD9 hRn9 hF9 hFA9 hFO9 hV9 (setV_ok hOk.1.2.2 v2 _))
        exact pw_locs _ rfl (lp101 1025 (S 88 34) (setV A c v (S 108 (S 88 35))) m6 (by omega) (by omega) hm6 hRD6 hRn6 hF6 hFA6 hFO6 hV6 hv1)
      · skip
        refine pw_aload_n 0 rfl dX7_takeNext_31 rfl ?_
        refine pw_gV 8 8 b rfl dX7_takeNext_32 cOk7 (by assumption) (by decide) kw_565 (by decide) hch1 ?_
        refine pw_iload_n 3 rfl dX7_takeNext_35 rfl ?_
        refine pw_iload_n 1 rfl dX7_takeNext_36 rfl ?_
        have hnb := h_numberBehind (d - 1) (by omega) n ok m1 hN b hC A c (setV A c v (S 108 (S 88 35))) hI hS1 hV1 hv1 (j : Int) (by omega) (by rw [hF1.1 2 (by omega) (by omega) (by omega)]; omega)
        rw [hnum] at hnb
        refine pw_callV (d' := d - 1) (As := [_, _]) (ci := 0) dX7_takeNext_37 ok_X0_numberBehind kw_695 rfl rfl (Of.o (by assumption)) (by omega) rfl (Nat.le_of_ble_eq_true rfl) hnb (Nat.le_refl _) (Or.inl rfl) (fun r9 ok1 m3 hq => ?_)
        obtain ⟨rfl, rfl, hF2x, hV3⟩ := hq
        have g3 : ∀ a, a ≠ b + 4 → a ≠ b + 7 → m3 a = m1 a := hF2x
        have hF3 := hF1.tr (FrK.n hF2x hb59)
        have hm3 : SRm S2 m3 := hm.m (by rw [g3 _ (by omega) (by omega)]) (by rw [g3 _ (by omega) (by omega)]) (fun a h1 h2 => g3 a (by omega) (by omega))
        have hRD3 : RDx (Ex S2 (S 88 35) (j : Int)) m3 := hRD1.m (by rw [g3 _ (by omega) (by omega)]) (g3 _ (by omega) (by omega)) (g3 _ (by omega) (by omega))
        have h15b : m3 123 15 = mem 123 15 := by rw [g3 _ (by omega) (by omega)]; exact h15a
        have h14b : m3 123 14 = (S 88 35) := by rw [g3 _ (by omega) (by omega)]; exact h14a
        have h129b : m3 129 = mem 129 := by rw [g3 _ (by omega) (by omega)]; exact h129
        have h131b : m3 131 2 = m1 131 2 := by rw [g3 _ (by omega) (by omega)]
        have hS3 := hF3.cs hb59 hS
        have hUr := mvN_ran hOk.1 (S 108 (S 88 35)) (mv := (j : Int)) (by omega)
        have hpw := hOk.2.2
        refine pw_istore dX7_takeNext_40 (by decide) ?_
        refine pw_iload dX7_takeNext_42 rfl ?_
        refine pw_iconst dX7_takeNext_44 ?_
        refine pw_icmp_eq 83 (by decide) dX7_takeNext_45 (by omega) (by omega) (fun c45 => ?_) (fun c45 => ?_)
        · skip
          refine pw_iinc dX7_takeNext_83 rfl (by decide) ?_
          refine pw_goto 25 (by decide) dX7_takeNext_86 ?_
          have eS : ldB A c S2 (S 88 35) (S 108 (S 88 35)) (j : Int) = wr S2 114 (38 * (S 88 35) + (j : Int)) (-1) := by unfold ldB; rw [if_pos c45]
          exact pw_locs _ rfl (ih (j + 1) (wr S2 114 (38 * (S 88 35) + (j : Int)) (-1)) m3 (by omega) (by omega) (hm3.S (wr_a2 _ _ _ _ (by omega)) (wr_a2 _ _ _ _ (by omega)) (fun a ha => wr_a _ _ _ (by omega))) (by show ldB A c (lmB A c S (S 88 35) (S 108 (S 88 35)) j) _ _ _ = _; rw [he]; exact eS) (hRD3.c (Ex_skip (by omega) (Or.inl rfl))) (by have := adG_s A c (S 108 (S 88 35)) j; omega) hV3 hF3 h15b h129b h14b)
        · skip
          refine pw_iload dX7_takeNext_48 rfl ?_
          refine pw_iload_n 1 rfl dX7_takeNext_50 rfl ?_
          refine pw_icmp_eq 83 (by decide) dX7_takeNext_51 (by omega) (by omega) (fun c51 => ?_) (fun c51 => ?_)
          · skip
            refine pw_iinc dX7_takeNext_83 rfl (by decide) ?_
            refine pw_goto 25 (by decide) dX7_takeNext_86 ?_
            have eS : ldB A c S2 (S 88 35) (S 108 (S 88 35)) (j : Int) = wr S2 114 (38 * (S 88 35) + (j : Int)) (S 88 35) := by
              have q1 : S2 109 (S 108 (S 88 35)) ≠ -1 := by have := (hLq.2.1 (S 88 35) (by omega) (by omega)); rw [hL108] at this; omega
              have q2 : S2 110 (S 108 (S 88 35)) = (S 88 35) := by have := (hLq.2.1 (S 88 35) (by omega) (by omega)); rw [hL108] at this; omega
              unfold ldB; rw [if_neg c45, c51]
              unfold cmB; rw [if_pos q1, q2]
            exact pw_locs _ rfl (ih (j + 1) (wr S2 114 (38 * (S 88 35) + (j : Int)) (S 88 35)) m3 (by omega) (by omega) (hm3.S (wr_a2 _ _ _ _ (by omega)) (wr_a2 _ _ _ _ (by omega)) (fun a ha => wr_a _ _ _ (by omega))) (by show ldB A c (lmB A c S (S 88 35) (S 108 (S 88 35)) j) _ _ _ = _; rw [he]; exact eS) (hRD3.c (Ex_skip (by omega) (Or.inr rfl))) (by have := adG_s A c (S 108 (S 88 35)) j; omega) hV3 hF3 h15b h129b h14b)
          · skip
            refine pw_aload_n 0 rfl dX7_takeNext_54 rfl ?_
            refine pw_iload dX7_takeNext_55 rfl ?_
            refine pw_iload_n 3 rfl dX7_takeNext_57 rfl ?_
            refine pw_aload_n 0 rfl dX7_takeNext_58 rfl ?_
            refine pw_gI 14 14 rfl dX7_takeNext_59 cOk7 (by assumption) (by decide) kw_575 (by decide) (fun r59 => ?_)
            try simp (disch := omega) only [wr_s, wr_a, wr_k] at r59 ⊢
            rw [h14b] at r59 ⊢
            refine pw_callV (d' := d - 1) (As := [_, _, _]) (ci := 7) dX7_takeNext_62 ok_X7_comeTo kw_650 rfl rfl (Of.o (by assumption)) (by omega) rfl (Nat.le_of_ble_eq_true rfl) (y_comeTo (d - 1) (by omega) n ok m3 hU S2 hm3 hLq (mvN A c (S 108 (S 88 35)) (j : Int)) (j : Int) (S 88 35) (S2 109 (S 108 (S 88 35)) + 1) (opN A c (mvN A c (S 108 (S 88 35)) (j : Int))) (by omega) (by omega) (by omega) (Or.inr ⟨by omega, by omega, by rw [hL108]⟩)) (Nat.le_refl _) (Or.inl rfl) (fun r9 ok1 m4 hq => ?_)
            obtain ⟨rfl, rfl, hm4, hF4⟩ := hq
            obtain ⟨S3, eS3⟩ : ∃ y, y = cmB S2 (mvN A c (S 108 (S 88 35)) (j : Int)) (S2 109 (S 108 (S 88 35)) + 1) (S 88 35) (j : Int) (opN A c (mvN A c (S 108 (S 88 35)) (j : Int))) := ⟨_, rfl⟩
            rw [← eS3] at hm4
            have h14c : m4 123 14 = (S 88 35) := by rw [hF4.2 14 (by omega)]; exact h14b
            have hcq := cmB_q (by' := (j : Int)) (op := opN A c (mvN A c (S 108 (S 88 35)) (j : Int))) hLq (show 0 ≤ (mvN A c (S 108 (S 88 35)) (j : Int)) ∧ (mvN A c (S 108 (S 88 35)) (j : Int)) < 1024 by omega) (show S2 109 (S 108 (S 88 35)) + 1 = 0 ∨ (0 ≤ (S 88 35) ∧ (S 88 35) < S2 88 34 ∧ S2 109 (S 108 (S 88 35)) + 1 = S2 109 (S2 108 (S 88 35)) + 1) from Or.inr ⟨by omega, by omega, by rw [hL108]⟩)
            rw [← eS3] at hcq
            have hcE : SE S2 (cmB S2 (mvN A c (S 108 (S 88 35)) (j : Int)) (S2 109 (S 108 (S 88 35)) + 1) (S 88 35) (j : Int) (opN A c (mvN A c (S 108 (S 88 35)) (j : Int)))) := cmB_E hLq
            rw [← eS3] at hcE
            have e114 : S3 114 = S2 114 := by rw [eS3]; unfold cmB; split; rfl; exact (cmN_v _ _ _ _ _ _).2.2.2.2.2.2.2.2.2 114 (by omega) (by omega)
            have hux : S3 109 (mvN A c (S 108 (S 88 35)) (j : Int)) ≠ -1 := hcq.2.1
            have ho := hcq.1.2.2.1 (mvN A c (S 108 (S 88 35)) (j : Int)) (by omega) (by omega)
            have ho2 : 0 ≤ S3 110 (mvN A c (S 108 (S 88 35)) (j : Int)) ∧ S3 110 (mvN A c (S 108 (S 88 35)) (j : Int)) < S3 88 34 ∧ S3 108 (S3 110 (mvN A c (S 108 (S 88 35)) (j : Int))) = (mvN A c (S 108 (S 88 35)) (j : Int)) := by rcases ho with z | z; exact absurd z hux; exact z
            have h34c := hcq.1.1
            have hne : S3 110 (mvN A c (S 108 (S 88 35)) (j : Int)) ≠ (S 88 35) := fun z => by
              have := ho2.2.2
              rw [z, (hcE.2.2 (S 88 35) (by omega)).1, hL108] at this
              exact c51 this.symm
            refine pw_aload_n 0 rfl dX7_takeNext_65 rfl ?_
            refine pw_gR 7 131 dX7_takeNext_66 cOk7 (by assumption) (by decide) kw_564 (by decide) rfl ?_
            refine pw_aload_n 0 rfl dX7_takeNext_69 rfl ?_
            refine pw_gI 14 14 rfl dX7_takeNext_70 cOk7 (by assumption) (by decide) kw_575 (by decide) (fun r70 => ?_)
            try simp (disch := omega) only [wr_s, wr_a, wr_k] at r70 ⊢
            rw [h14c] at r70 ⊢
            refine pw_aload_n 0 rfl dX7_takeNext_73 rfl ?_
            refine pw_gR 4 128 dX7_takeNext_74 cOk7 (by assumption) (by decide) kw_560 (by decide) rfl ?_
            refine pw_iload dX7_takeNext_77 rfl ?_
            refine pw_iaload dX7_takeNext_79 (by assumption) (by omega) (by omega) (fun r79 => ?_)
            try simp (disch := omega) only [wr_s, wr_a, wr_k] at r79 ⊢
            rw [hm4.2.2.2 (mvN A c (S 108 (S 88 35)) (j : Int)) (by omega) (by omega), if_neg hux] at r79 ⊢
            have hnew : ¬ Ex S2 (S 88 35) (j : Int) (S 88 35) (S3 110 (mvN A c (S 108 (S 88 35)) (j : Int))) → isNew A c (S 108 (S 88 35)) (j : Int) := fun z => ⟨c45, c51, fun i i1 i2 w => z (by
              have hld := hL.2.2.2.2 i i1 i2
              rcases hld with y | y
              · omega
              · rw [w] at y
                have e1 : S3 = S2 := by rw [eS3]; unfold cmB; rw [if_pos y.2.1]
                rw [e1] at hne ⊢
                exact ⟨fun q => hne q.symm, by omega, by rw [e1] at ho2; omega, i, i1, by omega, Or.inr ⟨rfl, i2⟩, y.2.2⟩)⟩
            refine pw_callV (d' := d - 1) (As := [_, _]) (ci := 6) dX7_takeNext_80 ok_X6_add kw_723 rfl rfl (Of.o (by assumption)) (by omega) rfl (Nat.le_of_ble_eq_true rfl) (x_add (d - 1) (by omega) n ok m4 hU (Ex S2 (S 88 35) (j : Int)) (S 88 35) (S3 110 (mvN A c (S 108 (S 88 35)) (j : Int))) (hRD3.m (by rw [hF4.1 131 (by omega)]) (hF4.1 _ (by omega)) (hF4.1 _ (by omega))) (by omega) (by omega) (fun f t z => Ex_le z) (fun z => by have h1 := adG_y (hnew z); have h3 := adG_m A c (S 108 (S 88 35)) (j + 1) (38 - (j + 1)); rw [show j + 1 + (38 - (j + 1)) = 38 by omega] at h3; rw [hF4.1 131 (by omega), h131b]; omega)) (Nat.le_refl _) (Or.inl rfl) (fun r9 ok1 m5 hq => ?_)
            obtain ⟨rfl, rfl, hRD5, h131, hF5x, hF5y⟩ := hq
            have g5 : ∀ a, a ≠ 131 → a ≠ 132 → a ≠ 133 → m5 a = m4 a := hF5x
            have hF5 : FrK b mem m5 := (hF3.tr (FrK.c hF4)).tr ⟨fun a h1 h2 h3 => g5 a (by omega) (by omega) (by omega), fun k _ _ _ => by rw [g5 _ (by omega) (by omega) (by omega)]⟩
            have hm5 : SRm S3 m5 := hm4.m (by rw [g5 _ (by omega) (by omega) (by omega)]) (by rw [g5 _ (by omega) (by omega) (by omega)]) (fun a h1 h2 => g5 a (by omega) (by omega) (by omega))
            have h15e : m5 123 15 = mem 123 15 := by rw [g5 _ (by omega) (by omega) (by omega), hF4.2 15 (by omega)]; exact h15b
            have h14e : m5 123 14 = (S 88 35) := by rw [g5 _ (by omega) (by omega) (by omega)]; exact h14c
            have h129e : m5 129 = mem 129 := by rw [g5 _ (by omega) (by omega) (by omega), hF4.1 _ (by omega)]; exact h129b
            have hV5 : CV A c m5 b (setV A c v (S 108 (S 88 35))) := hV3.m (by rw [g5 _ (by omega) (by omega) (by omega), hF4.1 _ (by omega)])
            rw [hF4.1 131 (by omega), h131b] at h131
            refine pw_iinc dX7_takeNext_83 rfl (by decide) ?_
            refine pw_goto 25 (by decide) dX7_takeNext_86 ?_
            have eS : ldB A c S2 (S 88 35) (S 108 (S 88 35)) (j : Int) = wr S3 114 (38 * (S 88 35) + (j : Int)) (S3 110 (mvN A c (S 108 (S 88 35)) (j : Int))) := by unfold ldB; rw [if_neg c45, ← eS3]
            have hRnn : m5 131 2 ≤ 12 * (S 88 35) + adG A c (S 108 (S 88 35)) (j + 1) := by
              have hs := adG_s A c (S 108 (S 88 35)) j
              rcases h131 with q | q
              · omega
              · have := adG_y (hnew q.1); omega
            exact pw_locs _ rfl (ih (j + 1) (wr S3 114 (38 * (S 88 35) + (j : Int)) (S3 110 (mvN A c (S 108 (S 88 35)) (j : Int)))) m5 (by omega) (by omega) (hm5.S (wr_a2 _ _ _ _ (by omega)) (wr_a2 _ _ _ _ (by omega)) (fun a ha => wr_a _ _ _ (by omega))) (by show ldB A c (lmB A c S (S 88 35) (S 108 (S 88 35)) j) _ _ _ = _; rw [he]; exact eS) (hRD5.c (fun f t => (or_congr (Ex_c e114 _ _ f t) Iff.rfl).trans (Ex_add (by omega) (by omega) (by omega) hne f t))) hRnn hV5 hF5 h15e h129e h14e)
  exact pw_locs _ rfl (lp25 39 0 S m0 (by omega) (by omega) (hSR.m (by rw [g0 _ (by omega)]) (by rw [g0 _ (by omega)]) (fun a h1 h2 => g0 a (by omega))) rfl (hRD.m (by rw [g0 _ (by omega)]) (g0 _ (by omega)) (g0 _ (by omega))) (by rw [g0 _ (by omega)]; show _ ≤ _ + 0; omega) hV0 hFK0 (by rw [g0 _ (by omega)]) (g0 _ (by omega)) (by rw [g0 _ (by omega)]; exact hSR.2.1))
