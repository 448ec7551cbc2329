/-! ===== the class: building ===== -/
def chM (b : Nat) (m m1 : pM) : Prop := (∀ a, (a < b ∨ b + 15 < a) → m1 a = m a) ∧ ∀ k, k ≠ 10 → k ≠ 11 → k ≠ 12 → m1 b k = m b k
theorem chM.rf (b : Nat) (m : pM) : chM b m m := ⟨fun _ _ => rfl, fun _ _ _ _ => rfl⟩
theorem chM.tr {b : Nat} {m m1 m2 : pM} (h : chM b m m1) (g : chM b m1 m2) : chM b m m2 := ⟨fun a h1 => (g.1 a h1).trans (h.1 a h1), fun k h1 h2 h3 => (g.2 k h1 h2 h3).trans (h.2 k h1 h2 h3)⟩
theorem chM.w {b : Nat} {m m1 : pM} (h : chM b m m1) {a : Nat} (k x : Int) (ha : b < a ∧ a ≤ b + 15) : chM b m (wr m1 a k x) := ⟨fun d h1 => by rw [wr_a _ _ _ (by omega)]; exact h.1 d h1, fun j h1 h2 h3 => by rw [wr_a _ _ _ (by omega)]; exact h.2 j h1 h2 h3⟩
theorem stM.c {b : Nat} {m m1 : pM} (h : stM b m m1) : chM b m m1 := ⟨fun a h1 => h.1 a (by omega) (by omega) (by omega), h.2⟩
theorem Fso.c {b : Nat} {m m1 : pM} (h : Fso b m m1) : chM b m m1 := ⟨fun a h1 => h a (by omega) (by omega), fun k _ _ _ => by rw [h b (by omega) (by omega)]⟩
theorem SO_A {A A2 : pM} {c c2 : Int} {m : pM} {b : Nat} (h : SO A c m b) (h94 : A2 94 c2 = A 94 c) (h95 : ∀ k, 0 ≤ k → k < A 94 c → A2 95 (40 * c2 + k) = A 95 (40 * c + k)) : SO A2 c2 m b := by
  obtain ⟨h1, h2, h3, h4⟩ := h
  refine ⟨h1, fun s s1 s2 i i1 i2 => ?_, h3, fun k k1 k2 => ?_⟩
  · have a := h2 s s1 s2 i i1 i2
    exact ⟨a.1, by omega, by rw [h95 _ a.1 a.2.1]; exact a.2.2⟩
  · rw [h94] at k2
    rw [h95 k k1 k2]; exact h4 k k1 k2
theorem SO_st {A : pM} {c : Int} {m m1 : pM} {b : Nat} (h : SO A c m b) (e : m1 (b + 14) = m (b + 14)) (e2 : m1 (b + 15) = m (b + 15)) : SO A c m1 b := by
  unfold SO; rw [e, e2]; exact h
def spM (m : pM) (b : Nat) (s k p e : Int) : pM := wr (wr (wr (wr m (b + 2) s k) (b + 3) s p) (b + 4) s 0) (b + 5) s e
theorem spM_a (m : pM) (b : Nat) (s k p e : Int) (a : Nat) (h : a < b + 2 ∨ b + 5 < a) : spM m b s k p e a = m a := by
  unfold spM; rw [wr_a _ _ _ (by omega), wr_a _ _ _ (by omega), wr_a _ _ _ (by omega), wr_a _ _ _ (by omega)]
theorem spM_c (m : pM) (b : Nat) (s k p e : Int) : chM b m (spM m b s k p e) := (((((chM.rf b m).w _ _ (by omega)).w _ _ (by omega)).w _ _ (by omega)).w _ _ (by omega))
theorem spM_v (m : pM) (b : Nat) (s k p e j : Int) : spM m b s k p e (b + 2) j = (if j = s then k else m (b + 2) j) ∧ spM m b s k p e (b + 3) j = (if j = s then p else m (b + 3) j) ∧ spM m b s k p e (b + 4) j = (if j = s then 0 else m (b + 4) j) ∧ spM m b s k p e (b + 5) j = (if j = s then e else m (b + 5) j) := by
  unfold spM
  refine ⟨?_, ?_, ?_, ?_⟩
  · rw [wr_a _ _ _ (by omega), wr_a _ _ _ (by omega), wr_a _ _ _ (by omega)]; unfold wr; by_cases q : j = s <;> simp [q]
  · rw [wr_a _ _ _ (by omega), wr_a _ _ _ (by omega)]; unfold wr; by_cases q : j = s <;> simp [q]
  · rw [wr_a _ _ _ (by omega)]; unfold wr; by_cases q : j = s <;> simp [q]
  · unfold wr; by_cases q : j = s <;> simp [q]
/-- conditions and rows untouched -/
theorem CR_seat {A A2 : pM} {c : Int} {m m2 : pM} {b : Nat} (h : CR A c m b) (hA : ∀ a, a = 89 ∨ (94 ≤ a ∧ a ≤ 98) → A2 a = A a) (hm : ∀ a, a = b + 1 ∨ (b + 8 ≤ a ∧ a ≤ b + 12) → m2 a = m a)
    (hs : ∀ s, 0 ≤ s → s ≤ 15 → m2 (b + 2) s = A2 90 (16 * c + s) ∧ m2 (b + 3) s = eSp A2 c s ∧ (A2 90 (16 * c + s) ≠ -1 → m2 (b + 5) s = A2 93 (16 * c + s))) : CR A2 c m2 b := by
  obtain ⟨h1, h2, h3, h4⟩ := h
  refine ⟨?_, hs, ?_, ?_⟩
  · rw [hA 89 (by omega), hm (b + 1) (by omega)]; exact h1
  · rw [hA 94 (by omega), hm (b + 8) (by omega)]; exact h3
  · rw [hA 94 (by omega), hA 95 (by omega), hA 96 (by omega), hA 97 (by omega), hA 98 (by omega), hm (b + 9) (by omega), hm (b + 10) (by omega), hm (b + 11) (by omega), hm (b + 12) (by omega)]; exact h4
theorem CR_rem {A : pM} {c : Int} {m : pM} {b : Nat} (h : CR A c m b) (s : Int) : CR (wr A 90 (16 * c + s) (-1)) c (spM m b s (-1) 1 0) b := by
  refine CR_seat h (fun a ha => wr_a _ _ _ (by omega)) (fun a ha => spM_a _ _ _ _ _ _ _ (by omega)) (fun j j1 j2 => ?_)
  have a := h.2.1 j j1 j2
  have v := spM_v m b s (-1) 1 0 j
  rw [v.1, v.2.1, v.2.2.2]
  unfold eSp aKind aSpan
  by_cases q : j = s
  · subst q; rw [wr_s, if_pos rfl, if_pos rfl, if_pos rfl]; exact ⟨rfl, rfl, fun z => absurd rfl z⟩
  · rw [if_neg q, if_neg q, if_neg q, wr_k _ _ _ _ (by omega), wr_a _ _ _ (by omega), wr_a _ _ _ (by omega)]; exact a
theorem CV_rem {A : pM} {c : Int} {m : pM} {b : Nat} {v : Int → Int} (h : CV A c m b v) (s : Int) : CV (wr A 90 (16 * c + s) (-1)) c (spM m b s (-1) 1 0) b v := fun j j1 j2 => by
  rw [(spM_v m b s (-1) 1 0 j).2.2.1]
  unfold eAv aKind
  by_cases q : j = s
  · subst q; rw [if_pos rfl, wr_s, if_pos rfl]
  · rw [if_neg q, wr_k _ _ _ _ (by omega)]; exact h j j1 j2
theorem CR_put {A : pM} {c : Int} {m : pM} {b : Nat} (h : CR A c m b) (s k p e : Int) (hk : k ≠ -1) : CR (rStand A (16 * c + s) k p e) c (spM m b s k p e) b := by
  refine CR_seat h (fun a ha => by unfold rStand; rw [wr_a _ _ _ (by omega), wr_a _ _ _ (by omega), wr_a _ _ _ (by omega), wr_a _ _ _ (by omega)]) (fun a ha => spM_a _ _ _ _ _ _ _ (by omega)) (fun j j1 j2 => ?_)
  have a := h.2.1 j j1 j2
  have v := spM_v m b s k p e j
  rw [v.1, v.2.1, v.2.2.2]
  unfold eSp aKind aSpan
  rw [rSt_v, rSt_v, rSt_v]
  by_cases q : j = s
  · subst q; rw [if_pos rfl, if_pos rfl, if_pos rfl, if_pos rfl, if_pos rfl, if_pos rfl]
    simp [hk]
  · rw [if_neg q, if_neg q, if_neg q, if_neg (show ¬ (16 * c + j = 16 * c + s) by omega), if_neg (show ¬ (16 * c + j = 16 * c + s) by omega), if_neg (show ¬ (16 * c + j = 16 * c + s) by omega)]; exact a
theorem CV_put {A : pM} {c : Int} {m : pM} {b : Nat} {v : Int → Int} (h : CV A c m b v) (s k p e : Int) : CV (rStand A (16 * c + s) k p e) c (spM m b s k p e) b (vUp v s 0) := fun j j1 j2 => by
  rw [(spM_v m b s k p e j).2.2.1]
  unfold eAv aKind vUp
  rw [rSt_v]
  by_cases q : j = s
  · subst q; simp
  · rw [if_neg q, if_neg (show ¬ (16 * c + j = 16 * c + s) by omega), if_neg q]; exact h j j1 j2
theorem CR_row {A : pM} {c : Int} {m : pM} {b : Nat} (h : CR A c m b) (r x : Int) : CR (wr A 89 (4 * c + r) x) c (wr m (b + 1) r x) b := by
  obtain ⟨h1, h2, h3, h4⟩ := h
  refine ⟨fun q q1 q2 => ?_, ?_, ?_, ?_⟩
  · by_cases e : q = r
    · subst e; rw [wr_s, wr_s]
    · rw [wr_k _ _ _ _ e, wr_k _ _ _ _ (by omega)]; exact h1 q q1 q2
  · unfold eSp aKind aSpan
    rw [wr_a _ _ _ (by omega), wr_a _ _ _ (by omega), wr_a _ _ _ (by omega), wr_a _ _ _ (by omega), wr_a _ _ _ (by omega), wr_a _ _ _ (by omega)]
    exact h2
  · rw [wr_a _ _ _ (by omega), wr_a _ _ _ (by omega)]; exact h3
  · rw [wr_a _ _ _ (by omega), wr_a _ _ _ (by omega), wr_a _ _ _ (by omega), wr_a _ _ _ (by omega), wr_a _ _ _ (by omega), wr_a _ _ _ (by omega), wr_a _ _ _ (by omega), wr_a _ _ _ (by omega), wr_a _ _ _ (by omega)]
    exact h4
def layA (A : pM) (c r x : Int) : pM := fiM (wr A 89 (4 * c + r) x) 90 (16 * c + 4 * r) 4 (-1)
set_option maxHeartbeats 4000000 in
set_option maxRecDepth 100000 in
theorem h_setPart (d : Nat) (hd : 0 ≤ d) (n : Nat) (ok : pO) (mem : pM) (b : Nat) (hC : ChUp n ok b) (s k p e : Int) (hs : 0 ≤ s ∧ s ≤ 15) (hk : -2147483648 ≤ k ∧ k ≤ 2147483647) (hp : -2147483648 ≤ p ∧ p ≤ 2147483647) (he : -2147483648 ≤ e ∧ e ≤ 2147483647) : PM mi_X0_setPart d [vr b, vi s, vi k, vi p, vi e] n ok mem n (fun r ok' mem' => r = none ∧ ok = ok' ∧ spM mem b s k p e = mem') := by
  obtain ⟨hC0, ⟨hC1, hC2, hC3, hC4, hC5, hC6, hC7⟩, hC8, ⟨hC9, hC10, hC11, hC12, hC13, hC14, hC15⟩, hC16, hC17, hb5, hb59⟩ := id hC
  refine PM.of (by decide) (by decide) (Nat.le_refl _) (Nat.le_of_ble_eq_true rfl) ?_
  refine pw_aload_n 0 rfl dX0_setPart_0 rfl ?_
  refine pw_gR 2 (b + 2) dX0_setPart_1 cOk0 (by assumption) (by decide) kw_230 (by decide) rfl ?_
  refine pw_iload_n 1 rfl dX0_setPart_4 rfl ?_
  refine pw_iload_n 2 rfl dX0_setPart_5 rfl ?_
  refine pw_iastore dX0_setPart_6 (by assumption) (by omega) (by omega) (by omega) ?_
  refine pw_aload_n 0 rfl dX0_setPart_7 rfl ?_
  refine pw_gR 3 (b + 3) dX0_setPart_8 cOk0 (by assumption) (by decide) kw_234 (by decide) rfl ?_
  refine pw_iload_n 1 rfl dX0_setPart_11 rfl ?_
  refine pw_iload_n 3 rfl dX0_setPart_12 rfl ?_
  refine pw_iastore dX0_setPart_13 (by assumption) (by omega) (by omega) (by omega) ?_
  refine pw_aload_n 0 rfl dX0_setPart_14 rfl ?_
  refine pw_gR 4 (b + 4) dX0_setPart_15 cOk0 (by assumption) (by decide) kw_238 (by decide) rfl ?_
  refine pw_iload_n 1 rfl dX0_setPart_18 rfl ?_
  refine pw_iconst dX0_setPart_19 ?_
  refine pw_iastore dX0_setPart_20 (by assumption) (by omega) (by omega) (by omega) ?_
  refine pw_aload_n 0 rfl dX0_setPart_21 rfl ?_
  refine pw_gR 5 (b + 5) dX0_setPart_22 cOk0 (by assumption) (by decide) kw_241 (by decide) rfl ?_
  refine pw_iload_n 1 rfl dX0_setPart_25 rfl ?_
  refine pw_iload dX0_setPart_26 rfl ?_
  refine pw_iastore dX0_setPart_28 (by assumption) (by omega) (by omega) (by omega) ?_
  refine pw_vret dX0_setPart_29 rfl rfl ?_
  exact ⟨rfl, rfl, rfl⟩
set_option maxHeartbeats 4000000 in
set_option maxRecDepth 100000 in
theorem h_layRow (d : Nat) (hd : 3 ≤ d) (n : Nat) (ok : pO) (mem : pM) (b : Nat) (hC : ChUp n ok b) (A : pM) (c : Int) (v : Int → Int) (hRA : CR A c mem b) (hOA : SO A c mem b) (hV : CV A c mem b v) (r x : Int) (hr : 0 ≤ r ∧ r ≤ 3) (hx : -1 ≤ x ∧ x ≤ 4) (hI2 : cIn (layA A c r x) c) : PM mi_X0_layRow d [vr b, vi r, vi x] n ok mem n (fun r0 ok' mem' => r0 = none ∧ ok = ok' ∧ chM b mem mem' ∧ CS (layA A c r x) c mem' b ∧ CV (layA A c r x) c mem' b (v)) := by
  obtain ⟨hC0, ⟨hC1, hC2, hC3, hC4, hC5, hC6, hC7⟩, hC8, ⟨hC9, hC10, hC11, hC12, hC13, hC14, hC15⟩, hC16, hC17, hb5, hb59⟩ := id hC
  refine PM.of (by decide) (by decide) (Nat.le_refl _) (Nat.le_of_ble_eq_true rfl) ?_
  refine pw_aload_n 0 rfl dX0_layRow_0 rfl ?_
  refine pw_gR 1 (b + 1) dX0_layRow_1 cOk0 (by assumption) (by decide) kw_228 (by decide) rfl ?_
  refine pw_iload_n 1 rfl dX0_layRow_4 rfl ?_
  refine pw_iload_n 2 rfl dX0_layRow_5 rfl ?_
  refine pw_iastore dX0_layRow_6 (by assumption) (by omega) (by omega) (by omega) ?_
  have hR0 := CR_row hRA r x
  have hV0 : CV (wr A 89 (4 * c + r) x) c (wr mem (b + 1) r x) b v := fun s s1 s2 => by rw [wr_a _ _ _ (by omega)]; unfold eAv aKind; rw [wr_a _ _ _ (by omega)]; exact hV s s1 s2
  refine pw_iconst dX0_layRow_7 ?_
  refine pw_istore_n 3 rfl dX0_layRow_8 (by decide) ?_
  have lp9 : ∀ (kz : Nat) (i : Nat) (m1 : pM), 4 - (i : Int) < (kz : Int) → (i ≤ 4) → (chM b mem m1) → (CR (fiM (wr A 89 (4 * c + r) x) 90 (16 * c + 4 * r) (i : Int) (-1)) c m1 b) → (CV (fiM (wr A 89 (4 * c + r) x) 90 (16 * c + 4 * r) (i : Int) (-1)) c m1 b v) → (m1 (b + 14) = mem (b + 14)) → (m1 (b + 15) = mem (b + 15)) → PW mi_X0_layRow d n n (fun r0 ok' mem' => r0 = none ∧ ok = ok' ∧ chM b mem mem' ∧ CS (layA A c r x) c mem' b ∧ CV (layA A c r x) c mem' b (v)) 9 [(0, vr b), (1, vi r), (2, vi x), (3, vi (i : Int))] [] n ok m1 := by
    intro kz
    induction kz with
    | zero =>
      intro i m1 hk h1 hM hR1 hV1 h14 h15
      exact absurd hk (by omega)
    | succ kz ih =>
      intro i m1 hk h1 hM hR1 hV1 h14 h15
      refine pw_iload_n 3 rfl dX0_layRow_9 rfl ?_
      refine pw_iconst dX0_layRow_10 ?_
      refine pw_icmp_ge 32 (by decide) dX0_layRow_11 (by omega) (by omega) (fun c11 => ?_) (fun c11 => ?_)
      · skip
        have e4 : i = 4 := by omega
        subst e4
        have hR2 : CR (layA A c r x) c m1 b := hR1
        have hV2 : CV (layA A c r x) c m1 b v := hV1
        refine pw_aload_n 0 rfl dX0_layRow_32 rfl ?_
        refine pw_callV (d' := d - 1) (As := []) (ci := 0) dX0_layRow_33 ok_X0_settle kw_209 rfl rfl (Of.o (by assumption)) (by omega) rfl (Nat.le_of_ble_eq_true rfl) (h_settle (d - 1) (by omega) n ok m1 b hC (layA A c r x) c hI2 hR2) (Nat.le_refl _) (Or.inl rfl) (fun r9 ok1 m2 hq => ?_)
        obtain ⟨rfl, rfl, hT, hDD⟩ := hq
        have hSO2 : SO (layA A c r x) c m2 b := SO_st (SO_A (SO_st hOA h14 h15) (by unfold layA; rw [fiM_a _ _ _ _ (by omega), wr_a _ _ _ (by omega)]) (fun k _ _ => by unfold layA; rw [fiM_a _ _ _ _ (by omega), wr_a _ _ _ (by omega)])) (hT.1 _ (by omega) (by omega) (by omega)) (hT.1 _ (by omega) (by omega) (by omega))
        refine pw_vret dX0_layRow_36 rfl rfl ?_
        exact ⟨rfl, rfl, hM.tr hT.c, ⟨CR_st hR2 hT, hDD, hSO2⟩, hV2.m (hT.1 _ (by omega) (by omega) (by omega))⟩
      · skip
        refine pw_aload_n 0 rfl dX0_layRow_14 rfl ?_
        refine pw_iload_n 1 rfl dX0_layRow_15 rfl ?_
        refine pw_iconst dX0_layRow_16 ?_
        refine pw_imul dX0_layRow_17 ?_
        refine pw_iload_n 3 rfl dX0_layRow_18 rfl ?_
        refine pw_iadd dX0_layRow_19 ?_
        refine pw_iconst dX0_layRow_20 ?_
        refine pw_iconst dX0_layRow_21 ?_
        refine pw_iconst dX0_layRow_22 ?_
        refine pw_callV (d' := d - 1) (As := [_, _, _, _]) (ci := 0) dX0_layRow_23 ok_X0_setPart kw_205 rfl rfl (Of.o (by assumption)) (by omega) rfl (Nat.le_of_ble_eq_true rfl) (h_setPart (d - 1) (by omega) n ok m1 b hC (r * 4 + (i : Int)) (-1) 1 0 (by omega) (by omega) (by omega) (by omega)) (Nat.le_refl _) (Or.inl rfl) (fun r ok1 mem1 hq => ?_)
        obtain ⟨rfl, rfl, rfl⟩ := hq
        refine pw_iinc dX0_layRow_26 rfl (by decide) ?_
        refine pw_goto 9 (by decide) dX0_layRow_29 ?_
        have eL : fiM (wr A 89 (4 * c + r) x) 90 (16 * c + 4 * r) ((i + 1 : Nat) : Int) (-1) = wr (fiM (wr A 89 (4 * c + r) x) 90 (16 * c + 4 * r) (i : Int) (-1)) 90 (16 * c + (r * 4 + (i : Int))) (-1) := by
          rw [show 16 * c + (r * 4 + (i : Int)) = 16 * c + 4 * r + (i : Int) by omega]; exact (fiM_s (wr A 89 (4 * c + r) x) 90 (16 * c + 4 * r) (i : Int) (-1) (by omega)).symm
        exact pw_locs _ rfl (ih (i + 1) _ (by omega) (by omega) (hM.tr (spM_c _ _ _ _ _ _)) (by rw [eL]; exact CR_rem hR1 _) (by rw [eL]; exact CV_rem hV1 _) (by rw [spM_a _ _ _ _ _ _ _ (by omega)]; exact h14) (by rw [spM_a _ _ _ _ _ _ _ (by omega)]; exact h15))
  exact pw_locs _ rfl (lp9 5 0 _ (by omega) (by omega) ((chM.rf b mem).w _ _ (by omega)) (by rw [show ((0 : Nat) : Int) = 0 from rfl, fiM_0]; exact hR0) (by rw [show ((0 : Nat) : Int) = 0 from rfl, fiM_0]; exact hV0) (wr_a _ _ _ (by omega)) (wr_a _ _ _ (by omega)))
set_option maxHeartbeats 4000000 in
set_option maxRecDepth 100000 in
theorem h_put (d : Nat) (hd : 3 ≤ d) (n : Nat) (ok : pO) (mem : pM) (b : Nat) (hC : ChUp n ok b) (A : pM) (c : Int) (v : Int → Int) (hRA : CR A c mem b) (hOA : SO A c mem b) (hV : CV A c mem b v) (s k p e : Int) (hs : 0 ≤ s ∧ s ≤ 15) (hk : 0 ≤ k ∧ k ≤ 5) (hp : 1 ≤ p ∧ p ≤ 6) (he : 0 ≤ e ∧ e ≤ 5) (hI2 : cIn (rStand A (16 * c + s) k p e) c) : PM mi_X0_put d [vr b, vi s, vi k, vi p, vi e] n ok mem n (fun r0 ok' mem' => r0 = none ∧ ok = ok' ∧ chM b mem mem' ∧ CS (rStand A (16 * c + s) k p e) c mem' b ∧ CV (rStand A (16 * c + s) k p e) c mem' b (vUp v s 0)) := by
  obtain ⟨hC0, ⟨hC1, hC2, hC3, hC4, hC5, hC6, hC7⟩, hC8, ⟨hC9, hC10, hC11, hC12, hC13, hC14, hC15⟩, hC16, hC17, hb5, hb59⟩ := id hC
  refine PM.of (by decide) (by decide) (Nat.le_refl _) (Nat.le_of_ble_eq_true rfl) ?_
  refine pw_aload_n 0 rfl dX0_put_0 rfl ?_
  refine pw_iload_n 1 rfl dX0_put_1 rfl ?_
  refine pw_iload_n 2 rfl dX0_put_2 rfl ?_
  refine pw_iload_n 3 rfl dX0_put_3 rfl ?_
  refine pw_iload dX0_put_4 rfl ?_
  refine pw_callV (d' := d - 1) (As := [_, _, _, _]) (ci := 0) dX0_put_6 ok_X0_setPart kw_205 rfl rfl (Of.o (by assumption)) (by omega) rfl (Nat.le_of_ble_eq_true rfl) (h_setPart (d - 1) (by omega) n ok mem b hC s k p e (by omega) (by omega) (by omega) (by omega)) (Nat.le_refl _) (Or.inl rfl) (fun r ok1 mem1 hq => ?_)
  obtain ⟨rfl, rfl, rfl⟩ := hq
  refine pw_aload_n 0 rfl dX0_put_9 rfl ?_
  refine pw_callV (d' := d - 1) (As := []) (ci := 0) dX0_put_10 ok_X0_settle kw_209 rfl rfl (Of.o (by assumption)) (by omega) rfl (Nat.le_of_ble_eq_true rfl) (h_settle (d - 1) (by omega) n ok _ b hC (rStand A (16 * c + s) k p e) c hI2 (CR_put hRA s k p e (by omega))) (Nat.le_refl _) (Or.inl rfl) (fun r9 ok1 m2 hq => ?_)
  obtain ⟨rfl, rfl, hT, hDD⟩ := hq
  have hSO2 : SO (rStand A (16 * c + s) k p e) c m2 b := SO_st (SO_A (SO_st hOA (spM_a mem b s k p e _ (by omega)) (spM_a mem b s k p e _ (by omega))) (by unfold rStand; simp (disch := omega) only [wr_a]) (fun k _ _ => by unfold rStand; simp (disch := omega) only [wr_a])) (hT.1 _ (by omega) (by omega) (by omega)) (hT.1 _ (by omega) (by omega) (by omega))
  refine pw_vret dX0_put_13 rfl rfl ?_
  exact ⟨rfl, rfl, (spM_c mem b s k p e).tr hT.c, ⟨CR_st (CR_put hRA s k p e (by omega)) hT, hDD, hSO2⟩, CV.m (CV_put hV s k p e) (hT.1 _ (by omega) (by omega) (by omega))⟩
set_option maxHeartbeats 4000000 in
set_option maxRecDepth 100000 in
theorem h_remove (d : Nat) (hd : 3 ≤ d) (n : Nat) (ok : pO) (mem : pM) (b : Nat) (hC : ChUp n ok b) (A : pM) (c : Int) (v : Int → Int) (hRA : CR A c mem b) (hOA : SO A c mem b) (hV : CV A c mem b v) (s : Int) (hs : 0 ≤ s ∧ s ≤ 15) (hI2 : cIn (wr A 90 (16 * c + s) (-1)) c) : PM mi_X0_remove d [vr b, vi s] n ok mem n (fun r0 ok' mem' => r0 = none ∧ ok = ok' ∧ chM b mem mem' ∧ CS (wr A 90 (16 * c + s) (-1)) c mem' b ∧ CV (wr A 90 (16 * c + s) (-1)) c mem' b (v)) := by
  obtain ⟨hC0, ⟨hC1, hC2, hC3, hC4, hC5, hC6, hC7⟩, hC8, ⟨hC9, hC10, hC11, hC12, hC13, hC14, hC15⟩, hC16, hC17, hb5, hb59⟩ := id hC
  refine PM.of (by decide) (by decide) (Nat.le_refl _) (Nat.le_of_ble_eq_true rfl) ?_
  refine pw_aload_n 0 rfl dX0_remove_0 rfl ?_
  refine pw_iload_n 1 rfl dX0_remove_1 rfl ?_
  refine pw_iconst dX0_remove_2 ?_
  refine pw_iconst dX0_remove_3 ?_
  refine pw_iconst dX0_remove_4 ?_
  refine pw_callV (d' := d - 1) (As := [_, _, _, _]) (ci := 0) dX0_remove_5 ok_X0_setPart kw_205 rfl rfl (Of.o (by assumption)) (by omega) rfl (Nat.le_of_ble_eq_true rfl) (h_setPart (d - 1) (by omega) n ok mem b hC s (-1) 1 0 (by omega) (by omega) (by omega) (by omega)) (Nat.le_refl _) (Or.inl rfl) (fun r ok1 mem1 hq => ?_)
  obtain ⟨rfl, rfl, rfl⟩ := hq
  refine pw_aload_n 0 rfl dX0_remove_8 rfl ?_
  refine pw_callV (d' := d - 1) (As := []) (ci := 0) dX0_remove_9 ok_X0_settle kw_209 rfl rfl (Of.o (by assumption)) (by omega) rfl (Nat.le_of_ble_eq_true rfl) (h_settle (d - 1) (by omega) n ok _ b hC (wr A 90 (16 * c + s) (-1)) c hI2 (CR_rem hRA s)) (Nat.le_refl _) (Or.inl rfl) (fun r9 ok1 m2 hq => ?_)
  obtain ⟨rfl, rfl, hT, hDD⟩ := hq
  have hSO2 : SO (wr A 90 (16 * c + s) (-1)) c m2 b := SO_st (SO_A (SO_st hOA (spM_a mem b s (-1) 1 0 _ (by omega)) (spM_a mem b s (-1) 1 0 _ (by omega))) (by simp (disch := omega) only [wr_a]) (fun k _ _ => by simp (disch := omega) only [wr_a])) (hT.1 _ (by omega) (by omega) (by omega)) (hT.1 _ (by omega) (by omega) (by omega))
  refine pw_vret dX0_remove_12 rfl rfl ?_
  exact ⟨rfl, rfl, (spM_c mem b s (-1) 1 0).tr hT.c, ⟨CR_st (CR_rem hRA s) hT, hDD, hSO2⟩, CV.m (CV_rem hV s) (hT.1 _ (by omega) (by omega) (by omega))⟩
theorem aMul_w (A : pM) (c w : Int) (k : Nat) : aMul A c w (k + 1) = aMul A c w k * (if (k : Int) = w then 1 else eSp A c k) := by
  show aMul A c w k * _ = _
  congr 1
  unfold eSp
  by_cases q : (k : Int) = w
  · rw [if_pos (Or.inr q), if_pos q]
  · rw [if_neg q]
    by_cases q2 : aKind A c k = -1
    · rw [if_pos (Or.inl q2), if_pos q2]
    · rw [if_neg (fun z => by rcases z with z | z; exact q2 z; exact q z), if_neg q2]
set_option maxHeartbeats 4000000 in
set_option maxRecDepth 100000 in
theorem h_productWith (d : Nat) (hd : 0 ≤ d) (n : Nat) (ok : pO) (mem : pM) (b : Nat) (hC : ChUp n ok b) (A : pM) (c : Int) (hR : CR A c mem b) (s p : Int) (hs : 0 ≤ s ∧ s ≤ 15) (hp : -2147483648 ≤ p ∧ p ≤ 2147483647) : PM mi_X0_productWith d [vr b, vi s, vi p] n ok mem n (fun r ok' mem' => r = some (vi (p * aMul A c s 16)) ∧ ok = ok' ∧ mem = mem') := by
  obtain ⟨hC0, ⟨hC1, hC2, hC3, hC4, hC5, hC6, hC7⟩, hC8, ⟨hC9, hC10, hC11, hC12, hC13, hC14, hC15⟩, hC16, hC17, hb5, hb59⟩ := id hC
  refine PM.of (by decide) (by decide) (Nat.le_refl _) (Nat.le_of_ble_eq_true rfl) ?_
  refine pw_iload_n 2 rfl dX0_productWith_0 rfl ?_
  refine pw_istore_n 3 rfl dX0_productWith_1 (by decide) ?_
  refine pw_iconst dX0_productWith_2 ?_
  refine pw_istore dX0_productWith_3 (by decide) ?_
  have lp5 : ∀ (kz : Nat) (i : Nat) (x : Int), 16 - (i : Int) < (kz : Int) → (i ≤ 16) → (x = p * aMul A c s i) → PW mi_X0_productWith d n n (fun r ok' mem' => r = some (vi (p * aMul A c s 16)) ∧ ok = ok' ∧ mem = mem') 5 [(0, vr b), (1, vi s), (2, vi p), (3, vi x), (4, vi (i : Int))] [] n ok mem := by
    intro kz
    induction kz with
    | zero =>
      intro i x hk h1 h2
      exact absurd hk (by omega)
    | succ kz ih =>
      intro i x hk h1 h2
      refine pw_iload dX0_productWith_5 rfl ?_
      refine pw_bipush dX0_productWith_7 (by decide) ?_
      refine pw_icmp_ge 34 (by decide) dX0_productWith_9 (by omega) (by omega) (fun c9 => ?_) (fun c9 => ?_)
      · skip
        refine pw_iload_n 3 rfl dX0_productWith_34 rfl ?_
        refine pw_iret dX0_productWith_35 rfl rfl ?_
        have e9 : i = 16 := by omega
        subst e9
        rw [h2]; exact ⟨rfl, rfl, rfl⟩
      · skip
        have e3 := (hR.2.1 i (by omega) (by omega)).2.1
        refine pw_iload dX0_productWith_12 rfl ?_
        refine pw_iload_n 1 rfl dX0_productWith_14 rfl ?_
        refine pw_icmp_eq 28 (by decide) dX0_productWith_15 (by omega) (by omega) (fun c15 => ?_) (fun c15 => ?_)
        · skip
          refine pw_iinc dX0_productWith_28 rfl (by decide) ?_
          refine pw_goto 5 (by decide) dX0_productWith_31 ?_
          exact pw_locs _ rfl (ih (i + 1) x (by omega) (by omega) (by rw [aMul_w, if_pos c15, Int.mul_one]; exact h2))
        · skip
          refine pw_iload_n 3 rfl dX0_productWith_18 rfl ?_
          refine pw_aload_n 0 rfl dX0_productWith_19 rfl ?_
          refine pw_gR 3 (b + 3) dX0_productWith_20 cOk0 (by assumption) (by decide) kw_234 (by decide) rfl ?_
          refine pw_iload dX0_productWith_23 rfl ?_
          refine pw_iaload dX0_productWith_25 (by assumption) (by omega) (by omega) (fun r25 => ?_)
          try simp (disch := omega) only [wr_s, wr_a, wr_k] at r25 ⊢
          rw [e3] at r25 ⊢
          refine pw_imul dX0_productWith_26 ?_
          refine pw_istore_n 3 rfl dX0_productWith_27 (by decide) ?_
          refine pw_iinc dX0_productWith_28 rfl (by decide) ?_
          refine pw_goto 5 (by decide) dX0_productWith_31 ?_
          exact pw_locs _ rfl (ih (i + 1) _ (by omega) (by omega) (by rw [aMul_w, if_neg c15, h2, Int.mul_assoc]))
  exact pw_locs _ rfl (lp5 17 0 p (by omega) (by omega) (by show _ = p * 1; rw [Int.mul_one]))
theorem CR_cond {A A2 : pM} {c : Int} {m m2 : pM} {b : Nat} (h : CR A c m b) (hA : ∀ a, 89 ≤ a → a ≤ 93 → A2 a = A a) (hm : ∀ a, b + 1 ≤ a → a ≤ b + 5 → m2 a = m a) (h94 : m2 (b + 8) 7 = A2 94 c)
    (hk : ∀ k, 0 ≤ k → k < A2 94 c → m2 (b + 9) k = A2 95 (40 * c + k) ∧ m2 (b + 10) k = A2 96 (40 * c + k) ∧ m2 (b + 11) k = A2 97 (40 * c + k) ∧ ∀ i : Nat, i ≤ 5 → (tb (m2 (b + 12) k) i = true ↔ A2 98 (6 * (40 * c + k) + i) = 1)) : CR A2 c m2 b := by
  obtain ⟨h1, h2, h3, h4⟩ := h
  refine ⟨?_, ?_, h94, hk⟩
  · rw [hA 89 (by omega) (by omega), hm (b + 1) (by omega) (by omega)]; exact h1
  · unfold eSp aKind aSpan
    rw [hA 90 (by omega) (by omega), hA 91 (by omega) (by omega), hA 93 (by omega) (by omega), hm (b + 2) (by omega) (by omega), hm (b + 3) (by omega) (by omega), hm (b + 5) (by omega) (by omega)]; exact h2
def addM (m : pM) (b : Nat) (a l k : Int) : pM := wr (wr (wr (wr (wr m (b + 9) (m (b + 8) 7) a) (b + 10) (m (b + 8) 7) l) (b + 11) (m (b + 8) 7) k) (b + 12) (m (b + 8) 7) 0) (b + 8) 7 (m (b + 8) 7 + 1)
theorem addM_v (m : pM) (b : Nat) (a l k : Int) : (∀ d, d < b + 8 ∨ b + 12 < d → addM m b a l k d = m d) ∧ (∀ j, addM m b a l k (b + 9) j = if j = m (b + 8) 7 then a else m (b + 9) j) ∧ (∀ j, addM m b a l k (b + 10) j = if j = m (b + 8) 7 then l else m (b + 10) j) ∧ (∀ j, addM m b a l k (b + 11) j = if j = m (b + 8) 7 then k else m (b + 11) j) ∧ (∀ j, addM m b a l k (b + 12) j = if j = m (b + 8) 7 then 0 else m (b + 12) j) ∧ addM m b a l k (b + 8) 7 = m (b + 8) 7 + 1 := by
  unfold addM
  refine ⟨fun d hd => by rw [wr_a _ _ _ (by omega), wr_a _ _ _ (by omega), wr_a _ _ _ (by omega), wr_a _ _ _ (by omega), wr_a _ _ _ (by omega)], fun j => ?_, fun j => ?_, fun j => ?_, fun j => ?_, wr_s _ _ _ _⟩
  · rw [wr_a _ _ _ (by omega), wr_a _ _ _ (by omega), wr_a _ _ _ (by omega), wr_a _ _ _ (by omega)]; unfold wr; by_cases q : j = m (b + 8) 7 <;> simp [q]
  · rw [wr_a _ _ _ (by omega), wr_a _ _ _ (by omega), wr_a _ _ _ (by omega)]; unfold wr; by_cases q : j = m (b + 8) 7 <;> simp [q]
  · rw [wr_a _ _ _ (by omega), wr_a _ _ _ (by omega)]; unfold wr; by_cases q : j = m (b + 8) 7 <;> simp [q]
  · rw [wr_a _ _ _ (by omega)]; unfold wr; by_cases q : j = m (b + 8) 7 <;> simp [q]
theorem rMore_v (A : pM) (c a l k : Int) : (∀ d, d < 94 ∨ 98 < d → rMore A c a l k d = A d) ∧ rMore A c a l k 94 c = A 94 c + 1 ∧ (∀ j, rMore A c a l k 95 j = if j = 40 * c + A 94 c then a else A 95 j) ∧ (∀ j, rMore A c a l k 96 j = if j = 40 * c + A 94 c then l else A 96 j) ∧ (∀ j, rMore A c a l k 97 j = if j = 40 * c + A 94 c then k else A 97 j) ∧ (∀ j, rMore A c a l k 98 j = if 6 * (40 * c + A 94 c) ≤ j ∧ j < 6 * (40 * c + A 94 c) + 6 then 0 else A 98 j) ∧ ∀ e, e ≠ c → rMore A c a l k 94 e = A 94 e := by
  unfold rMore
  refine ⟨fun d hd => by rw [wr_a _ _ _ (by omega), fiM_a _ _ _ _ (by omega), wr_a _ _ _ (by omega), wr_a _ _ _ (by omega), wr_a _ _ _ (by omega)], wr_s _ _ _ _, fun j => ?_, fun j => ?_, fun j => ?_, fun j => ?_, fun e he => ?_⟩
  · rw [wr_a _ _ _ (by omega), fiM_a _ _ _ _ (by omega), wr_a _ _ _ (by omega), wr_a _ _ _ (by omega)]; unfold wr; by_cases q : j = 40 * c + A 94 c <;> simp [q]
  · rw [wr_a _ _ _ (by omega), fiM_a _ _ _ _ (by omega), wr_a _ _ _ (by omega)]; unfold wr; by_cases q : j = 40 * c + A 94 c <;> simp [q]
  · rw [wr_a _ _ _ (by omega), fiM_a _ _ _ _ (by omega)]; unfold wr; by_cases q : j = 40 * c + A 94 c <;> simp [q]
  · rw [wr_a _ _ _ (by omega)]; unfold fiM
    by_cases q : 6 * (40 * c + A 94 c) ≤ j ∧ j < 6 * (40 * c + A 94 c) + 6
    · rw [if_pos ⟨rfl, q⟩, if_pos q]
    · rw [if_neg (fun z => q z.2), if_neg q, wr_a _ _ _ (by omega), wr_a _ _ _ (by omega), wr_a _ _ _ (by omega)]
  · rw [wr_k _ _ _ _ he, fiM_a _ _ _ _ (by omega), wr_a _ _ _ (by omega), wr_a _ _ _ (by omega), wr_a _ _ _ (by omega)]
theorem CR_add {A : pM} {c : Int} {m : pM} {b : Nat} (h : CR A c m b) (a l k : Int) : CR (rMore A c a l k) c (addM m b a l k) b := by
  have v := addM_v m b a l k
  have w := rMore_v A c a l k
  have h94 := h.2.2.1
  refine CR_cond h (fun d h1 h2 => w.1 d (by omega)) (fun d h1 h2 => v.1 d (by omega)) (by rw [v.2.2.2.2.2, w.2.1, h94]) (fun j j1 j2 => ?_)
  rw [w.2.1] at j2
  rw [v.2.1, v.2.2.1, v.2.2.2.1, v.2.2.2.2.1, w.2.2.1, w.2.2.2.1, w.2.2.2.2.1, h94]
  by_cases q : j = A 94 c
  · subst q
    rw [if_pos rfl, if_pos rfl, if_pos rfl, if_pos rfl, if_pos rfl, if_pos rfl, if_pos rfl]
    refine ⟨rfl, rfl, rfl, fun i hi => ?_⟩
    rw [tb_0, w.2.2.2.2.2.1, if_pos (by omega)]
    exact ⟨fun z => absurd z (by decide), fun z => absurd z (by decide)⟩
  · rw [if_neg q, if_neg q, if_neg q, if_neg q, if_neg (by omega), if_neg (by omega), if_neg (by omega)]
    have e := h.2.2.2 j j1 (by omega)
    refine ⟨e.1, e.2.1, e.2.2.1, fun i hi => ?_⟩
    rw [w.2.2.2.2.2.1, if_neg (by omega)]
    exact e.2.2.2 i hi
set_option maxHeartbeats 4000000 in
set_option maxRecDepth 100000 in
theorem q_add (d : Nat) (hd : 1 ≤ d) (n : Nat) (ok : pO) (mem : pM) (b : Nat) (hC : ChUp n ok b) (a l k : Int) (ha : -1 ≤ a ∧ a ≤ 15) (hl : -2147483648 ≤ l ∧ l ≤ 2147483647) (hk : -2147483648 ≤ k ∧ k ≤ 2147483647) (hN9 : 0 ≤ mem (b + 8) 7 ∧ mem (b + 8) 7 < 40) (hg : ∀ j, 0 ≤ j → j < mem (b + 8) 7 → -1 ≤ mem (b + 9) j ∧ mem (b + 9) j ≤ 15) : PM mi_X1_add d [vr (b + 8), vi a, vi l, vi k] n ok mem n (fun r ok' mem' => r = none ∧ ok = ok' ∧ Fso b (addM mem b a l k) mem' ∧ SOr (addM mem b a l k (b + 9)) (addM mem b a l k (b + 8) 7) (mem' (b + 14)) (mem' (b + 15))) := by
  obtain ⟨hC0, ⟨hC1, hC2, hC3, hC4, hC5, hC6, hC7⟩, hC8, ⟨hC9, hC10, hC11, hC12, hC13, hC14, hC15⟩, hC16, hC17, hb5, hb59⟩ := id hC
  refine PM.of (by decide) (by decide) (Nat.le_refl _) (Nat.le_of_ble_eq_true rfl) ?_
  refine pw_aload_n 0 rfl dX1_add_0 rfl ?_
  refine pw_gI 7 7 rfl dX1_add_1 cOk1 (by assumption) (by decide) kw_151 (by decide) (fun r1 => ?_)
  refine pw_bipush dX1_add_4 (by decide) ?_
  refine pw_icmp_lt 10 (by decide) dX1_add_6 (by omega) (by omega) (fun c6 => ?_) (fun c6 => ?_)
  · skip
    refine pw_aload_n 0 rfl dX1_add_10 rfl ?_
    refine pw_gR 0 (b + 9) dX1_add_11 cOk1 (by assumption) (by decide) kw_132 (by decide) rfl ?_
    refine pw_aload_n 0 rfl dX1_add_14 rfl ?_
    refine pw_gI 7 7 rfl dX1_add_15 cOk1 (by assumption) (by decide) kw_151 (by decide) (fun r15 => ?_)
    refine pw_iload_n 1 rfl dX1_add_18 rfl ?_
    refine pw_iastore dX1_add_19 (by assumption) (by omega) (by omega) (by omega) ?_
    refine pw_aload_n 0 rfl dX1_add_20 rfl ?_
    refine pw_gR 1 (b + 10) dX1_add_21 cOk1 (by assumption) (by decide) kw_135 (by decide) rfl ?_
    refine pw_aload_n 0 rfl dX1_add_24 rfl ?_
    refine pw_gI 7 7 rfl dX1_add_25 cOk1 (by assumption) (by decide) kw_151 (by decide) (fun r25 => ?_)
    try simp (disch := omega) only [wr_s, wr_a, wr_k] at r25 ⊢
    refine pw_iload_n 2 rfl dX1_add_28 rfl ?_
    refine pw_iastore dX1_add_29 (by assumption) (by omega) (by omega) (by omega) ?_
    refine pw_aload_n 0 rfl dX1_add_30 rfl ?_
    refine pw_gR 2 (b + 11) dX1_add_31 cOk1 (by assumption) (by decide) kw_139 (by decide) rfl ?_
    refine pw_aload_n 0 rfl dX1_add_34 rfl ?_
    refine pw_gI 7 7 rfl dX1_add_35 cOk1 (by assumption) (by decide) kw_151 (by decide) (fun r35 => ?_)
    try simp (disch := omega) only [wr_s, wr_a, wr_k] at r35 ⊢
    refine pw_iload_n 3 rfl dX1_add_38 rfl ?_
    refine pw_iastore dX1_add_39 (by assumption) (by omega) (by omega) (by omega) ?_
    refine pw_aload_n 0 rfl dX1_add_40 rfl ?_
    refine pw_gR 3 (b + 12) dX1_add_41 cOk1 (by assumption) (by decide) kw_143 (by decide) rfl ?_
    refine pw_aload_n 0 rfl dX1_add_44 rfl ?_
    refine pw_gI 7 7 rfl dX1_add_45 cOk1 (by assumption) (by decide) kw_151 (by decide) (fun r45 => ?_)
    try simp (disch := omega) only [wr_s, wr_a, wr_k] at r45 ⊢
    refine pw_iconst dX1_add_48 ?_
    refine pw_iastore dX1_add_49 (by assumption) (by omega) (by omega) (by omega) ?_
    refine pw_aload_n 0 rfl dX1_add_50 rfl ?_
    refine pw_dup dX1_add_51 rfl ?_
    refine pw_gI 7 7 rfl dX1_add_52 cOk1 (by assumption) (by decide) kw_151 (by decide) (fun r52 => ?_)
    try simp (disch := omega) only [wr_s, wr_a, wr_k] at r52 ⊢
    refine pw_iconst dX1_add_55 ?_
    refine pw_iadd dX1_add_56 ?_
    refine pw_pI 7 7 rfl dX1_add_57 cOk1 (by assumption) (by decide) kw_151 rfl rfl (by decide) (by omega) ?_
    obtain ⟨m1, em1⟩ : ∃ y, y = addM mem b a l k := ⟨_, rfl⟩
    rw [show wr (wr (wr (wr (wr mem (b + 9) (mem (b + 8) 7) a) (b + 10) (mem (b + 8) 7) l) (b + 11) (mem (b + 8) 7) k) (b + 12) (mem (b + 8) 7) 0) (b + 8) 7 (mem (b + 8) 7 + 1) = m1 from em1.symm]
    have va := addM_v mem b a l k
    rw [← em1] at va
    refine pw_aload_n 0 rfl dX1_add_60 rfl ?_
    refine pw_callV (d' := d - 1) (As := []) (ci := 1) dX1_add_61 ok_X1_sort kw_197 rfl rfl (Of.o (by assumption)) (by omega) rfl (Nat.le_of_ble_eq_true rfl) (q_sort (d - 1) (by omega) n ok m1 b hC (by rw [va.2.2.2.2.2]; omega) (fun j j1 j2 => by rw [va.2.2.2.2.2] at j2; rw [va.2.1]; by_cases q : j = mem (b + 8) 7; rw [if_pos q]; omega; rw [if_neg q]; exact hg j j1 (by omega))) (Nat.le_refl _) (Or.inl rfl) (fun r9 ok1 m2 hq => ?_)
    obtain ⟨rfl, rfl, hF, hO⟩ := hq
    subst em1
    refine pw_vret dX1_add_64 rfl rfl ?_
    exact ⟨rfl, rfl, hF, hO⟩
  · skip
    exfalso; omega
set_option maxHeartbeats 4000000 in
set_option maxRecDepth 100000 in
theorem h_addCondition (d : Nat) (hd : 3 ≤ d) (n : Nat) (ok : pO) (mem : pM) (b : Nat) (hC : ChUp n ok b) (A : pM) (c : Int) (v : Int → Int) (hRA : CR A c mem b) (hOA : SO A c mem b) (hV : CV A c mem b v) (hI : cIn A c) (a l k : Int) (ha : -1 ≤ a ∧ a ≤ 15) (hl : 0 ≤ l ∧ l ≤ 15) (hk : -1 ≤ k ∧ k ≤ 6) (h40 : A 94 c < 40) (hI2 : cIn (rMore A c a l k) c) : PM mi_X0_addCondition d [vr b, vi a, vi l, vi k] n ok mem n (fun r ok' mem' => r = some (vi (A 94 c)) ∧ ok = ok' ∧ chM b mem mem' ∧ CS (rMore A c a l k) c mem' b ∧ CV (rMore A c a l k) c mem' b v) := by
  obtain ⟨hC0, ⟨hC1, hC2, hC3, hC4, hC5, hC6, hC7⟩, hC8, ⟨hC9, hC10, hC11, hC12, hC13, hC14, hC15⟩, hC16, hC17, hb5, hb59⟩ := id hC
  have hnc := hI.2.2.1.1
  refine PM.of (by decide) (by decide) (Nat.le_refl _) (Nat.le_of_ble_eq_true rfl) ?_
  refine pw_aload_n 0 rfl dX0_addCondition_0 rfl ?_
  refine pw_gR 8 (b + 8) dX0_addCondition_1 cOk0 (by assumption) (by decide) kw_246 (by decide) rfl ?_
  refine pw_iload_n 1 rfl dX0_addCondition_4 rfl ?_
  refine pw_iload_n 2 rfl dX0_addCondition_5 rfl ?_
  refine pw_iload_n 3 rfl dX0_addCondition_6 rfl ?_
  refine pw_callV (d' := d - 1) (As := [_, _, _]) (ci := 1) dX0_addCondition_7 ok_X1_add kw_469 rfl rfl (Of.o (by assumption)) (by omega) rfl (Nat.le_of_ble_eq_true rfl) (q_add (d - 1) (by omega) n ok mem b hC a l k ha (by omega) (by omega) (by rw [hRA.2.2.1]; omega) (fun j j1 j2 => by rw [hRA.2.2.1] at j2; rw [(hRA.2.2.2 j j1 j2).1]; exact (hI.2.2.1.2 j j1 j2).1)) (Nat.le_refl _) (Or.inl rfl) (fun r9 ok1 m1 hq => ?_)
  obtain ⟨rfl, rfl, hF, hO⟩ := hq
  have va := addM_v mem b a l k
  have vr9 := rMore_v A c a l k
  have hR1 : CR (rMore A c a l k) c m1 b := by
    have h0 := CR_add hRA a l k
    unfold CR
    rw [hF (b + 1) (by omega) (by omega), hF (b + 2) (by omega) (by omega), hF (b + 3) (by omega) (by omega), hF (b + 5) (by omega) (by omega), hF (b + 8) (by omega) (by omega), hF (b + 9) (by omega) (by omega), hF (b + 10) (by omega) (by omega), hF (b + 11) (by omega) (by omega), hF (b + 12) (by omega) (by omega)]
    exact h0
  have hcA : chM b mem (addM mem b a l k) := ⟨fun d h1 => va.1 d (by omega), fun j _ _ _ => by rw [va.1 b (by omega)]⟩
  have hSO1 : SO (rMore A c a l k) c m1 b := SO_of hO (by rw [va.2.2.2.2.2, vr9.2.1, hRA.2.2.1]) (fun j j1 j2 => by have h0 := (CR_add hRA a l k).2.2.2 j j1 (by rw [vr9.2.1, ← hRA.2.2.1]; rw [va.2.2.2.2.2] at j2; exact j2); exact h0.1)
  refine pw_aload_n 0 rfl dX0_addCondition_10 rfl ?_
  refine pw_callV (d' := d - 1) (As := []) (ci := 0) dX0_addCondition_11 ok_X0_settle kw_209 rfl rfl (Of.o (by assumption)) (by omega) rfl (Nat.le_of_ble_eq_true rfl) (h_settle (d - 1) (by omega) n ok m1 b hC (rMore A c a l k) c hI2 hR1) (Nat.le_refl _) (Or.inl rfl) (fun r9 ok1 m2 hq => ?_)
  obtain ⟨rfl, rfl, hT, hDD⟩ := hq
  have hSO2 : SO (rMore A c a l k) c m2 b := SO_st hSO1 (hT.1 _ (by omega) (by omega) (by omega)) (hT.1 _ (by omega) (by omega) (by omega))
  have g8 : m2 (b + 8) 7 = A 94 c + 1 := by rw [hT.1 _ (by omega) (by omega) (by omega), hR1.2.2.1, vr9.2.1]
  have hV2 : CV (rMore A c a l k) c m2 b v := fun s s1 s2 => by
    rw [hT.1 _ (by omega) (by omega) (by omega), hF (b + 4) (by omega) (by omega), va.1 (b + 4) (by omega), hV s s1 s2]
    unfold eAv aKind; rw [vr9.1 90 (by omega)]
  refine pw_aload_n 0 rfl dX0_addCondition_14 rfl ?_
  refine pw_gR 8 (b + 8) dX0_addCondition_15 cOk0 (by assumption) (by decide) kw_246 (by decide) rfl ?_
  refine pw_gI 7 7 rfl dX0_addCondition_18 cOk1 (by assumption) (by decide) kw_154 (by decide) (fun r18 => ?_)
  rw [g8] at r18 ⊢
  refine pw_iconst dX0_addCondition_21 ?_
  refine pw_isub dX0_addCondition_22 ?_
  refine pw_iret dX0_addCondition_23 rfl rfl ?_
  exact ⟨congrArg (fun z => some (vi z)) (by omega), rfl, (hcA.tr hF.c).tr hT.c, ⟨CR_st hR1 hT, hDD, hSO2⟩, hV2⟩
