/-! ===== the class: roads and the rows of the search ===== -/
def SUp (n : Nat) (ok : pO) : Prop := Of n ok 7 123 ∧ (Ar n 124 1024 ∧ Ar n 125 1024 ∧ Ar n 126 1024 ∧ Ar n 127 1024 ∧ Ar n 128 1024 ∧ Ar n 129 1024 ∧ Ar n 130 1024) ∧ Of n ok 6 131 ∧ Ar n 132 1024 ∧ Ar n 133 12288
def rF (m : pM) (i : Int) : Int := m 133 i % 1024
def rN (m : pM) : Int → Int := fun i => m 133 i / 1024 - 1
def RDx (E : Int → Int → Prop) (m : pM) : Prop := ∃ T : Int → Int, (0 ≤ m 131 2 ∧ m 131 2 ≤ 12288) ∧ (∀ i, 0 ≤ i → i < m 131 2 → (0 ≤ m 133 i ∧ m 133 i ≤ 20000000) ∧ (0 ≤ T i ∧ T i < 1024) ∧ E (rF m i) (T i)) ∧ EL T 1024 (m 132) (rN m) (m 131 2) ∧ (∀ i j, 0 ≤ i → i < j → j < m 131 2 → rF m i ≤ rF m j ∧ (T i = T j → rF m i < rF m j)) ∧ ∀ f t, E f t → ∃ i, 0 ≤ i ∧ i < m 131 2 ∧ rF m i = f ∧ T i = t
theorem PE_cg {L L2 : Int → Int} {k E x : Int} (h : PE L k E x) (e : ∀ j, 0 ≤ j → j < E → L2 j = L j) : PE L2 k E x := by
  rcases h with h | h
  · exact Or.inl ⟨h.1, fun j j1 j2 => by rw [e j j1 j2]; exact h.2 j j1 j2⟩
  · exact Or.inr ⟨h.1, h.2.1, by rw [e x h.1 h.2.1]; exact h.2.2.1, fun j j1 j2 => by rw [e j (by omega) j2]; exact h.2.2.2 j j1 j2⟩
theorem EL_cg {L L2 : Int → Int} {N : Int} {hd nx nx2 : Int → Int} {E : Int} (h : EL L N hd nx E) (e : ∀ j, 0 ≤ j → j < E → L2 j = L j) (e2 : ∀ j, 0 ≤ j → j < E → nx2 j = nx j) : EL L2 N hd nx2 E := ⟨fun k k1 k2 => PE_cg (h.1 k k1 k2) e, fun j j1 j2 j3 => by
  rw [e j j1 j2] at j3 ⊢
  rw [e2 j j1 j2]
  exact PE_cg (h.2 j j1 j2 j3) (fun i i1 i2 => e i i1 (by omega))⟩
def adR (m : pM) (f t : Int) : pM := wr (wr (wr m 133 (m 131 2) (f + 1024 * (m 132 t + 1))) 132 t (m 131 2)) 131 2 (m 131 2 + 1)
theorem RDx.c {E E2 : Int → Int → Prop} {m : pM} (h : RDx E m) (e : ∀ f t, E f t ↔ E2 f t) : RDx E2 m := by
  obtain ⟨T, h1, h2, h3, h4, h5⟩ := h
  exact ⟨T, h1, fun i i1 i2 => ⟨(h2 i i1 i2).1, (h2 i i1 i2).2.1, (e _ _).mp (h2 i i1 i2).2.2⟩, h3, h4, fun f t q => h5 f t ((e f t).mpr q)⟩
theorem RDx.m {E : Int → Int → Prop} {m m1 : pM} (h : RDx E m) (e1 : m1 131 2 = m 131 2) (e2 : m1 132 = m 132) (e3 : m1 133 = m 133) : RDx E m1 := by
  unfold RDx rF rN
  rw [e1, e2, e3]
  exact h
theorem RDx_add {E : Int → Int → Prop} {m : pM} (h : RDx E m) {f t : Int} (hf : 0 ≤ f ∧ f < 1024) (ht : 0 ≤ t ∧ t < 1024) (hm : ∀ f2 t2, E f2 t2 → f2 ≤ f) (hn : ¬ E f t) (hR : m 131 2 < 12288) : RDx (fun x y => E x y ∨ (x = f ∧ y = t)) (adR m f t) := by
  obtain ⟨T, h1, h2, h3, h4, h5⟩ := h
  have hp := h3.1 t ht.1 ht.2
  have hl : -1 ≤ m 132 t ∧ m 132 t < m 131 2 := by rcases hp with z | z <;> omega
  have e131 : adR m f t 131 2 = m 131 2 + 1 := by unfold adR; rw [wr_s]
  have e133 : ∀ i, adR m f t 133 i = if i = m 131 2 then f + 1024 * (m 132 t + 1) else m 133 i := fun i => by
    unfold adR; rw [wr_a _ _ _ (by omega), wr_a _ _ _ (by omega)]; unfold wr; by_cases q : i = m 131 2 <;> simp [q]
  have e132 : adR m f t 132 = vUp (m 132) t (m 131 2) := by unfold adR; rw [wr_a _ _ _ (by omega), wr_f, wr_a _ _ _ (by omega)]
  have rF1 : ∀ i, i ≠ m 131 2 → rF (adR m f t) i = rF m i := fun i hi => by unfold rF; rw [e133, if_neg hi]
  have rF2 : rF (adR m f t) (m 131 2) = f := by unfold rF; rw [e133, if_pos rfl]; omega
  have T1 : ∀ i, i ≠ m 131 2 → vUp T (m 131 2) t i = T i := fun i hi => if_neg hi
  have T2 : vUp T (m 131 2) t (m 131 2) = t := if_pos rfl
  have top : ∀ i, 0 ≤ i → i < m 131 2 → rF m i ≤ f := fun i i1 i2 => hm _ _ (h2 i i1 i2).2.2
  refine ⟨vUp T (m 131 2) t, by rw [e131]; omega, fun i i1 i2 => ?_, ?_, fun i j i1 ij j2 => ?_, fun x y q => ?_⟩
  · rw [e131] at i2
    by_cases q : i = m 131 2
    · rw [q, rF2, T2, e133, if_pos rfl]; exact ⟨by omega, ht, Or.inr ⟨rfl, rfl⟩⟩
    · rw [rF1 i q, T1 i q, e133, if_neg q]
      have a := h2 i i1 (by omega)
      exact ⟨a.1, a.2.1, Or.inl a.2.2⟩
  · rw [e131, e132]
    have a : EL (vUp T (m 131 2) t) 1024 (m 132) (rN m) (m 131 2) := EL_cg h3 (fun j j1 j2 => T1 j (by omega)) (fun _ _ _ => rfl)
    have b := EL_yes a h1.1 (by rw [T2]; exact ht)
    rw [T2] at b
    refine EL_cg b (fun _ _ _ => rfl) (fun j j1 j2 => ?_)
    unfold rN vUp
    rw [e133]
    by_cases q : j = m 131 2
    · rw [if_pos q, if_pos q]; omega
    · rw [if_neg q, if_neg q]
  · rw [e131] at j2
    by_cases q : j = m 131 2
    · rw [q, rF2, T2, rF1 i (by omega), T1 i (by omega)]
      have a := top i i1 (by omega)
      refine ⟨a, fun z => ?_⟩
      have b := h2 i i1 (by omega)
      have : rF m i ≠ f := fun w => hn (by rw [← w, ← z]; exact b.2.2)
      omega
    · rw [rF1 i (by omega), T1 i (by omega), rF1 j q, T1 j q]
      exact h4 i j i1 ij (by omega)
  · rcases q with q | q
    · obtain ⟨i, i1, i2, i3, i4⟩ := h5 x y q
      exact ⟨i, i1, by rw [e131]; omega, by rw [rF1 i (by omega)]; exact i3, by rw [T1 i (by omega)]; exact i4⟩
    · exact ⟨m 131 2, h1.1, by rw [e131]; omega, by rw [rF2, q.1], by rw [T2, q.2]⟩
theorem RDx_same {E : Int → Int → Prop} {m : pM} (h : RDx E m) {f t : Int} (ht : 0 ≤ t ∧ t < 1024) (hm : ∀ f2 t2, E f2 t2 → f2 ≤ f) : (-1 ≤ m 132 t ∧ m 132 t < m 131 2) ∧ (E f t ↔ (m 132 t ≠ -1 ∧ rF m (m 132 t) = f)) := by
  obtain ⟨T, h1, h2, h3, h4, h5⟩ := h
  have hp := h3.1 t ht.1 ht.2
  have hl : -1 ≤ m 132 t ∧ m 132 t < m 131 2 := by rcases hp with z | z <;> omega
  refine ⟨hl, fun q => ?_, fun q => ?_⟩
  · obtain ⟨i, i1, i2, i3, i4⟩ := h5 f t q
    rcases hp with z | z
    · exact absurd i4 (z.2 i i1 i2)
    · refine ⟨by omega, ?_⟩
      by_cases e : i = m 132 t
      · rw [← e]; exact i3
      · have hlt : i < m 132 t := by
          by_cases w : i < m 132 t
          · exact w
          · exact absurd i4 (z.2.2.2 i (by omega) i2)
        have a := (h4 i (m 132 t) i1 hlt hl.2).2 (by rw [i4, z.2.2.1])
        have b := hm _ _ (h2 (m 132 t) z.1 hl.2).2.2
        omega
  · rcases hp with z | z
    · exact absurd z.1 q.1
    · have a := (h2 (m 132 t) z.1 hl.2).2.2
      rw [q.2, z.2.2.1] at a
      exact a
set_option maxHeartbeats 4000000 in
set_option maxRecDepth 100000 in
theorem j_fill (d : Nat) (hd : 0 ≤ d) (n : Nat) (ok : pO) (mem : pM) (a L : Nat) (hA : Ar n a L) (x : Int) (hx : -2147483648 ≤ x ∧ x ≤ 2147483647) : PM mi_J7_fill_53178 d [vr a, vi x] n ok mem n (fun r ok' mem' => r = none ∧ ok = ok' ∧ fiM mem a 0 L x = mem') := by
  have hL := hA.2.2.2.2
  refine PM.of (by decide) (by decide) (Nat.le_refl _) (Nat.le_of_ble_eq_true rfl) ?_
  refine pw_iconst dJ7_fill_53178_0 ?_
  refine pw_istore_n 2 rfl dJ7_fill_53178_1 (by decide) ?_
  refine pw_aload_n 0 rfl dJ7_fill_53178_2 rfl ?_
  refine pw_alen dJ7_fill_53178_3 (by assumption) ?_
  refine pw_istore_n 3 rfl dJ7_fill_53178_4 (by decide) ?_
  have lp5 : ∀ (kz : Nat) (i : Nat) (m1 : pM), (L : Int) - (i : Int) < (kz : Int) → (i ≤ L) → (fiM mem a 0 i x = m1) → PW mi_J7_fill_53178 d n n (fun r ok' mem' => r = none ∧ ok = ok' ∧ fiM mem a 0 L x = mem') 5 [(0, vr a), (1, vi x), (2, vi (i : Int)), (3, vi (L : Int))] [] n ok m1 := by
    intro kz
    induction kz with
    | zero =>
      intro i m1 hk h1 h2
      exact absurd hk (by omega)
    | succ kz ih =>
      intro i m1 hk h1 h2
      refine pw_iload_n 2 rfl dJ7_fill_53178_5 rfl ?_
      refine pw_iload_n 3 rfl dJ7_fill_53178_6 rfl ?_
      refine pw_icmp_ge 20 (by decide) dJ7_fill_53178_7 (by omega) (by omega) (fun c7 => ?_) (fun c7 => ?_)
      · skip
        refine pw_vret dJ7_fill_53178_20 rfl rfl ?_
        have e9 : i = L := by omega
        subst e9
        exact ⟨rfl, rfl, h2⟩
      · skip
        refine pw_aload_n 0 rfl dJ7_fill_53178_10 rfl ?_
        refine pw_iload_n 2 rfl dJ7_fill_53178_11 rfl ?_
        refine pw_iload_n 1 rfl dJ7_fill_53178_12 rfl ?_
        refine pw_iastore dJ7_fill_53178_13 (by assumption) (by omega) (by omega) (by omega) ?_
        refine pw_iinc dJ7_fill_53178_14 rfl (by decide) ?_
        refine pw_goto 5 (by decide) dJ7_fill_53178_17 ?_
        exact pw_locs _ rfl (ih (i + 1) _ (by omega) (by omega) (by rw [← h2]; have e5 := (fiM_s mem a 0 i x (by omega)).symm; rw [Int.zero_add] at e5; exact e5))
  exact pw_locs _ rfl (lp5 (L + 1) 0 mem (by omega) (by omega) (fiM_0 _ _ _ _))
set_option maxHeartbeats 4000000 in
set_option maxRecDepth 100000 in
theorem x_letGo (d : Nat) (hd : 1 ≤ d) (n : Nat) (ok : pO) (mem : pM) (hU : SUp n ok) : PM mi_X6_letGo d [vr 131] n ok mem n (fun r ok' mem' => r = none ∧ ok = ok' ∧ fiM (wr mem 131 2 0) 132 0 1024 (-1) = mem') := by
  obtain ⟨hT7, ⟨q124, q125, q126, q127, q128, q129, q130⟩, hT6, q132, q133⟩ := id hU
  refine PM.of (by decide) (by decide) (Nat.le_refl _) (Nat.le_of_ble_eq_true rfl) ?_
  refine pw_aload_n 0 rfl dX6_letGo_0 rfl ?_
  refine pw_iconst dX6_letGo_1 ?_
  refine pw_pI 2 2 rfl dX6_letGo_2 cOk6 (by assumption) (by decide) kw_545 rfl rfl (by decide) (by omega) ?_
  refine pw_aload_n 0 rfl dX6_letGo_5 rfl ?_
  refine pw_gR 0 132 dX6_letGo_6 cOk6 (by assumption) (by decide) kw_543 (by decide) rfl ?_
  refine pw_iconst dX6_letGo_9 ?_
  refine pw_callS (d' := d - 1) (As := [_, _]) dX6_letGo_10 ok_J7_fill_53178 kw_645 (by omega) rfl (Nat.le_of_ble_eq_true rfl) (j_fill (d - 1) (by omega) n ok _ 132 1024 q132 (-1) (by omega)) (Nat.le_refl _) (Or.inl rfl) (fun r ok1 mem1 hq => ?_)
  obtain ⟨rfl, rfl, rfl⟩ := hq
  refine pw_vret dX6_letGo_13 rfl rfl ?_
  exact ⟨rfl, rfl, rfl⟩
set_option maxHeartbeats 4000000 in
set_option maxRecDepth 100000 in
theorem x_latestTo (d : Nat) (hd : 0 ≤ d) (n : Nat) (ok : pO) (mem : pM) (hU : SUp n ok) (t : Int) (ht : 0 ≤ t ∧ t < 1024) : PM mi_X6_latestTo d [vr 131, vi t] n ok mem n (fun r ok' mem' => r = some (vi (mem 132 t)) ∧ ok = ok' ∧ mem = mem') := by
  obtain ⟨hT7, ⟨q124, q125, q126, q127, q128, q129, q130⟩, hT6, q132, q133⟩ := id hU
  refine PM.of (by decide) (by decide) (Nat.le_refl _) (Nat.le_of_ble_eq_true rfl) ?_
  refine pw_aload_n 0 rfl dX6_latestTo_0 rfl ?_
  refine pw_gR 0 132 dX6_latestTo_1 cOk6 (by assumption) (by decide) kw_543 (by decide) rfl ?_
  refine pw_iload_n 1 rfl dX6_latestTo_4 rfl ?_
  refine pw_iaload dX6_latestTo_5 (by assumption) (by omega) (by omega) (fun r5 => ?_)
  refine pw_iret dX6_latestTo_6 rfl rfl ?_
  exact ⟨rfl, rfl, rfl⟩
set_option maxHeartbeats 4000000 in
set_option maxRecDepth 100000 in
theorem x_from (d : Nat) (hd : 0 ≤ d) (n : Nat) (ok : pO) (mem : pM) (hU : SUp n ok) (i : Int) (hi : 0 ≤ i ∧ i < 12288) (hp : 0 ≤ mem 133 i) : PM mi_X6_from d [vr 131, vi i] n ok mem n (fun r ok' mem' => r = some (vi (rF mem i)) ∧ ok = ok' ∧ mem = mem') := by
  obtain ⟨hT7, ⟨q124, q125, q126, q127, q128, q129, q130⟩, hT6, q132, q133⟩ := id hU
  refine PM.of (by decide) (by decide) (Nat.le_refl _) (Nat.le_of_ble_eq_true rfl) ?_
  refine pw_aload_n 0 rfl dX6_from_0 rfl ?_
  refine pw_gR 1 133 dX6_from_1 cOk6 (by assumption) (by decide) kw_544 (by decide) rfl ?_
  refine pw_iload_n 1 rfl dX6_from_4 rfl ?_
  refine pw_iaload dX6_from_5 (by assumption) (by omega) (by omega) (fun r5 => ?_)
  refine pw_sipush dX6_from_6 (by decide) ?_
  refine pw_irem dX6_from_9 (by omega) (by omega) ?_
  refine pw_iret dX6_from_10 rfl rfl ?_
  exact ⟨rfl, rfl, rfl⟩
set_option maxHeartbeats 4000000 in
set_option maxRecDepth 100000 in
theorem x_before (d : Nat) (hd : 0 ≤ d) (n : Nat) (ok : pO) (mem : pM) (hU : SUp n ok) (i : Int) (hi : 0 ≤ i ∧ i < 12288) (hp : 0 ≤ mem 133 i) : PM mi_X6_before d [vr 131, vi i] n ok mem n (fun r ok' mem' => r = some (vi (rN mem i)) ∧ ok = ok' ∧ mem = mem') := by
  obtain ⟨hT7, ⟨q124, q125, q126, q127, q128, q129, q130⟩, hT6, q132, q133⟩ := id hU
  refine PM.of (by decide) (by decide) (Nat.le_refl _) (Nat.le_of_ble_eq_true rfl) ?_
  refine pw_aload_n 0 rfl dX6_before_0 rfl ?_
  refine pw_gR 1 133 dX6_before_1 cOk6 (by assumption) (by decide) kw_544 (by decide) rfl ?_
  refine pw_iload_n 1 rfl dX6_before_4 rfl ?_
  refine pw_iaload dX6_before_5 (by assumption) (by omega) (by omega) (fun r5 => ?_)
  refine pw_sipush dX6_before_6 (by decide) ?_
  refine pw_idiv dX6_before_9 (by omega) (by omega) ?_
  refine pw_iconst dX6_before_10 ?_
  refine pw_isub dX6_before_11 ?_
  refine pw_iret dX6_before_12 rfl rfl ?_
  exact ⟨rfl, rfl, rfl⟩
set_option maxHeartbeats 4000000 in
set_option maxRecDepth 100000 in
theorem x_add (d : Nat) (hd : 1 ≤ d) (n : Nat) (ok : pO) (mem : pM) (hU : SUp n ok) (E : Int → Int → Prop) (f t : Int) (hE : RDx E mem) (hf : 0 ≤ f ∧ f < 1024) (ht : 0 ≤ t ∧ t < 1024) (hm : ∀ f2 t2, E f2 t2 → f2 ≤ f) (hR : ¬ E f t → mem 131 2 < 12288) : PM mi_X6_add d [vr 131, vi f, vi t] n ok mem n (fun r ok' mem' => r = none ∧ ok = ok' ∧ RDx (fun x y => E x y ∨ (x = f ∧ y = t)) mem' ∧ ((E f t ∧ mem' 131 2 = mem 131 2) ∨ (¬ E f t ∧ mem' 131 2 = mem 131 2 + 1)) ∧ (∀ a, a ≠ 131 → a ≠ 132 → a ≠ 133 → mem' a = mem a) ∧ ∀ k, k ≠ 2 → mem' 131 k = mem 131 k) := by
  obtain ⟨hT7, ⟨q124, q125, q126, q127, q128, q129, q130⟩, hT6, q132, q133⟩ := id hU
  refine PM.of (by decide) (by decide) (Nat.le_refl _) (Nat.le_of_ble_eq_true rfl) ?_
  refine pw_aload_n 0 rfl dX6_add_0 rfl ?_
  refine pw_gR 0 132 dX6_add_1 cOk6 (by assumption) (by decide) kw_543 (by decide) rfl ?_
  refine pw_iload_n 2 rfl dX6_add_4 rfl ?_
  refine pw_iaload dX6_add_5 (by assumption) (by omega) (by omega) (fun r5 => ?_)
  have hs := RDx_same hE ht hm
  obtain ⟨T, hT1, hT2, hT3, hT4, hT5⟩ := id hE
  refine pw_istore_n 3 rfl dX6_add_6 (by decide) ?_
  refine pw_iload_n 3 rfl dX6_add_7 rfl ?_
  refine pw_iconst dX6_add_8 ?_
  refine pw_icmp_eq 25 (by decide) dX6_add_9 (by omega) (by omega) (fun c9 => ?_) (fun c9 => ?_)
  · skip
    have hn : ¬ E f t := fun z => (hs.2.mp z).1 c9
    refine pw_iconst dX6_add_25 ?_
    refine pw_istore dX6_add_26 (by decide) ?_
    refine pw_iload dX6_add_28 rfl ?_
    refine pw_if_ne 81 (by decide) dX6_add_30 (by omega) (fun c30 => ?_) (fun c30 => ?_)
    · skip
      exfalso; omega
    · skip
      refine pw_aload_n 0 rfl dX6_add_33 rfl ?_
      refine pw_gI 2 2 rfl dX6_add_34 cOk6 (by assumption) (by decide) kw_545 (by decide) (fun r34 => ?_)
      refine pw_sipush dX6_add_37 (by decide) ?_
      refine pw_icmp_ge 81 (by decide) dX6_add_40 (by omega) (by omega) (fun c40 => ?_) (fun c40 => ?_)
      · skip
        exfalso; have := hR hn; omega
      · skip
        refine pw_aload_n 0 rfl dX6_add_43 rfl ?_
        refine pw_gR 1 133 dX6_add_44 cOk6 (by assumption) (by decide) kw_544 (by decide) rfl ?_
        refine pw_aload_n 0 rfl dX6_add_47 rfl ?_
        refine pw_gI 2 2 rfl dX6_add_48 cOk6 (by assumption) (by decide) kw_545 (by decide) (fun r48 => ?_)
        refine pw_iload_n 1 rfl dX6_add_51 rfl ?_
        refine pw_sipush dX6_add_52 (by decide) ?_
        refine pw_iload_n 3 rfl dX6_add_55 rfl ?_
        refine pw_iconst dX6_add_56 ?_
        refine pw_iadd dX6_add_57 ?_
        refine pw_imul dX6_add_58 ?_
        refine pw_iadd dX6_add_59 ?_
        refine pw_iastore dX6_add_60 (by assumption) (by omega) (by omega) (by omega) ?_
        refine pw_aload_n 0 rfl dX6_add_61 rfl ?_
        refine pw_gR 0 132 dX6_add_62 cOk6 (by assumption) (by decide) kw_543 (by decide) rfl ?_
        refine pw_iload_n 2 rfl dX6_add_65 rfl ?_
        refine pw_aload_n 0 rfl dX6_add_66 rfl ?_
        refine pw_gI 2 2 rfl dX6_add_67 cOk6 (by assumption) (by decide) kw_545 (by decide) (fun r67 => ?_)
        try simp (disch := omega) only [wr_s, wr_a, wr_k] at r67 ⊢
        refine pw_iastore dX6_add_70 (by assumption) (by omega) (by omega) (by omega) ?_
        refine pw_aload_n 0 rfl dX6_add_71 rfl ?_
        refine pw_dup dX6_add_72 rfl ?_
        refine pw_gI 2 2 rfl dX6_add_73 cOk6 (by assumption) (by decide) kw_545 (by decide) (fun r73 => ?_)
        try simp (disch := omega) only [wr_s, wr_a, wr_k] at r73 ⊢
        refine pw_iconst dX6_add_76 ?_
        refine pw_iadd dX6_add_77 ?_
        refine pw_pI 2 2 rfl dX6_add_78 cOk6 (by assumption) (by decide) kw_545 rfl rfl (by decide) (by omega) ?_
        refine pw_vret dX6_add_81 rfl rfl ?_
        have eA : wr (wr (wr mem 133 (mem 131 2) (f + 1024 * (mem 132 t + 1))) 132 t (mem 131 2)) 131 2 (mem 131 2 + 1) = adR mem f t := rfl
        rw [eA]
        refine ⟨rfl, rfl, RDx_add hE hf ht hm hn (hR hn), Or.inr ⟨hn, by unfold adR; rw [wr_s]⟩, fun a h1 h2 h3 => ?_, fun k hk => ?_⟩
        · unfold adR; rw [wr_a _ _ _ h1, wr_a _ _ _ h2, wr_a _ _ _ h3]
        · unfold adR; rw [wr_k _ _ _ _ hk, wr_a _ _ _ (by omega), wr_a _ _ _ (by omega)]
  · skip
    refine pw_aload_n 0 rfl dX6_add_12 rfl ?_
    refine pw_iload_n 3 rfl dX6_add_13 rfl ?_
    refine pw_callV (d' := d - 1) (As := [_]) (ci := 6) dX6_add_14 ok_X6_from kw_727 rfl rfl (Of.o (by assumption)) (by omega) rfl (Nat.le_of_ble_eq_true rfl) (x_from (d - 1) (by omega) n ok mem hU (mem 132 t) (by omega) (hT2 _ (by omega) (by omega)).1.1) (Nat.le_refl _) (Or.inl rfl) (fun r ok1 mem1 hq => ?_)
    obtain ⟨rfl, rfl, rfl⟩ := hq
    have hfr : 0 ≤ rF mem (mem 132 t) ∧ rF mem (mem 132 t) < 1024 := by unfold rF; omega
    refine pw_iload_n 1 rfl dX6_add_17 rfl ?_
    refine pw_icmp_ne 25 (by decide) dX6_add_18 (by omega) (by omega) (fun c18 => ?_) (fun c18 => ?_)
    · skip
      have hn : ¬ E f t := fun z => c18 (hs.2.mp z).2
      refine pw_iconst dX6_add_25 ?_
      refine pw_istore dX6_add_26 (by decide) ?_
      refine pw_iload dX6_add_28 rfl ?_
      refine pw_if_ne 81 (by decide) dX6_add_30 (by omega) (fun c30 => ?_) (fun c30 => ?_)
      · skip
        exfalso; omega
      · skip
        refine pw_aload_n 0 rfl dX6_add_33 rfl ?_
        refine pw_gI 2 2 rfl dX6_add_34 cOk6 (by assumption) (by decide) kw_545 (by decide) (fun r34 => ?_)
        refine pw_sipush dX6_add_37 (by decide) ?_
        refine pw_icmp_ge 81 (by decide) dX6_add_40 (by omega) (by omega) (fun c40 => ?_) (fun c40 => ?_)
        · skip
          exfalso; have := hR hn; omega
        · skip
          refine pw_aload_n 0 rfl dX6_add_43 rfl ?_
          refine pw_gR 1 133 dX6_add_44 cOk6 (by assumption) (by decide) kw_544 (by decide) rfl ?_
          refine pw_aload_n 0 rfl dX6_add_47 rfl ?_
          refine pw_gI 2 2 rfl dX6_add_48 cOk6 (by assumption) (by decide) kw_545 (by decide) (fun r48 => ?_)
          refine pw_iload_n 1 rfl dX6_add_51 rfl ?_
          refine pw_sipush dX6_add_52 (by decide) ?_
          refine pw_iload_n 3 rfl dX6_add_55 rfl ?_
          refine pw_iconst dX6_add_56 ?_
          refine pw_iadd dX6_add_57 ?_
          refine pw_imul dX6_add_58 ?_
          refine pw_iadd dX6_add_59 ?_
          refine pw_iastore dX6_add_60 (by assumption) (by omega) (by omega) (by omega) ?_
          refine pw_aload_n 0 rfl dX6_add_61 rfl ?_
          refine pw_gR 0 132 dX6_add_62 cOk6 (by assumption) (by decide) kw_543 (by decide) rfl ?_
          refine pw_iload_n 2 rfl dX6_add_65 rfl ?_
          refine pw_aload_n 0 rfl dX6_add_66 rfl ?_
          refine pw_gI 2 2 rfl dX6_add_67 cOk6 (by assumption) (by decide) kw_545 (by decide) (fun r67 => ?_)
          try simp (disch := omega) only [wr_s, wr_a, wr_k] at r67 ⊢
          refine pw_iastore dX6_add_70 (by assumption) (by omega) (by omega) (by omega) ?_
          refine pw_aload_n 0 rfl dX6_add_71 rfl ?_
          refine pw_dup dX6_add_72 rfl ?_
          refine pw_gI 2 2 rfl dX6_add_73 cOk6 (by assumption) (by decide) kw_545 (by decide) (fun r73 => ?_)
          try simp (disch := omega) only [wr_s, wr_a, wr_k] at r73 ⊢
          refine pw_iconst dX6_add_76 ?_
          refine pw_iadd dX6_add_77 ?_
          refine pw_pI 2 2 rfl dX6_add_78 cOk6 (by assumption) (by decide) kw_545 rfl rfl (by decide) (by omega) ?_
          refine pw_vret dX6_add_81 rfl rfl ?_
          have eA : wr (wr (wr mem 133 (mem 131 2) (f + 1024 * (mem 132 t + 1))) 132 t (mem 131 2)) 131 2 (mem 131 2 + 1) = adR mem f t := rfl
          rw [eA]
          refine ⟨rfl, rfl, RDx_add hE hf ht hm hn (hR hn), Or.inr ⟨hn, by unfold adR; rw [wr_s]⟩, fun a h1 h2 h3 => ?_, fun k hk => ?_⟩
          · unfold adR; rw [wr_a _ _ _ h1, wr_a _ _ _ h2, wr_a _ _ _ h3]
          · unfold adR; rw [wr_k _ _ _ _ hk, wr_a _ _ _ (by omega), wr_a _ _ _ (by omega)]
    · skip
      have hy : E f t := hs.2.mpr ⟨c9, by omega⟩
      refine pw_iconst dX6_add_21 ?_
      refine pw_goto 26 (by decide) dX6_add_22 ?_
      refine pw_istore dX6_add_26 (by decide) ?_
      refine pw_iload dX6_add_28 rfl ?_
      refine pw_if_ne 81 (by decide) dX6_add_30 (by omega) (fun c30 => ?_) (fun c30 => ?_)
      · skip
        refine pw_vret dX6_add_81 rfl rfl ?_
        refine ⟨rfl, rfl, RDx.c hE (fun x y => ⟨Or.inl, fun z => by rcases z with z | z; exact z; rw [z.1, z.2]; exact hy⟩), Or.inl ⟨hy, rfl⟩, fun a _ _ _ => rfl, fun k _ => rfl⟩
      · skip
        exfalso; omega
def SRm (S m : pM) : Prop := m 123 13 = S 88 34 ∧ m 123 14 = S 88 35 ∧ (∀ o, 0 ≤ o → o < S 88 34 → m 124 o = S 108 o ∧ m 125 o = S 109 (S 108 o) ∧ m 126 o = S 113 o ∧ m 127 o = S 112 o) ∧ ∀ x, 0 ≤ x → x < 1024 → m 128 x = if S 109 x = -1 then -1 else S 110 x
def FrC (m m1 : pM) : Prop := (∀ a, (a < 123 ∨ 128 < a) → m1 a = m a) ∧ ∀ k, k ≠ 13 → m1 123 k = m 123 k
def ctM (m : pM) (u mv p l : Int) : pM := wr (wr (wr (wr (wr (wr m 128 u (m 123 13)) 124 (m 123 13) u) 126 (m 123 13) mv) 127 (m 123 13) p) 125 (m 123 13) l) 123 13 (m 123 13 + 1)
theorem ctM_f (m : pM) (u mv p l : Int) : FrC m (ctM m u mv p l) := by
  unfold ctM
  refine ⟨fun a h => by rw [wr_a _ _ _ (by omega), wr_a _ _ _ (by omega), wr_a _ _ _ (by omega), wr_a _ _ _ (by omega), wr_a _ _ _ (by omega), wr_a _ _ _ (by omega)], fun k h => by rw [wr_k _ _ _ _ h, wr_a _ _ _ (by omega), wr_a _ _ _ (by omega), wr_a _ _ _ (by omega), wr_a _ _ _ (by omega), wr_a _ _ _ (by omega)]⟩
theorem ctM_r {S m : pM} (h : SRm S m) (hq : SIq S) {u mv p l : Int} (op : Int) (hu : 0 ≤ u ∧ u < 1024) (hx : S 109 u = -1) (hl : 0 ≤ l) : SRm (cmN S u l p mv op) (ctM m u mv p l) := by
  obtain ⟨h1, h2, h3, h4⟩ := h
  have w := cmN_v S u l p mv op
  have e34 : cmN S u l p mv op 88 34 = S 88 34 + 1 := w.2.2.2.2.2.2.1
  refine ⟨?_, ?_, fun o o1 o2 => ?_, fun x x1 x2 => ?_⟩
  · unfold ctM; rw [wr_s, e34, h1]
  · rw [(ctM_f m u mv p l).2 14 (by omega), h2]
    exact (w.2.2.2.2.2.2.2.2.1 35 (by omega) (by omega)).symm
  · rw [e34] at o2
    have e124 : ctM m u mv p l 124 o = if o = S 88 34 then u else m 124 o := by unfold ctM; rw [← h1]; simp (disch := omega) only [wr_a]; unfold wr; by_cases q : o = m 123 13 <;> simp [q]
    have e125 : ctM m u mv p l 125 o = if o = S 88 34 then l else m 125 o := by unfold ctM; rw [← h1]; simp (disch := omega) only [wr_a]; unfold wr; by_cases q : o = m 123 13 <;> simp [q]
    have e126 : ctM m u mv p l 126 o = if o = S 88 34 then mv else m 126 o := by unfold ctM; rw [← h1]; simp (disch := omega) only [wr_a]; unfold wr; by_cases q : o = m 123 13 <;> simp [q]
    have e127 : ctM m u mv p l 127 o = if o = S 88 34 then p else m 127 o := by unfold ctM; rw [← h1]; simp (disch := omega) only [wr_a]; unfold wr; by_cases q : o = m 123 13 <;> simp [q]
    rw [e124, e125, e126, e127, w.1, w.2.2.1, w.2.2.2.1, w.2.2.2.2.1]
    by_cases q : o = S 88 34
    · subst q; rw [if_pos rfl, if_pos rfl, if_pos rfl, if_pos rfl, if_pos rfl, if_pos rfl, if_pos rfl, if_pos rfl]; exact ⟨rfl, rfl, rfl, rfl⟩
    · rw [if_neg q, if_neg q, if_neg q, if_neg q, if_neg q, if_neg q, if_neg q]
      have a := h3 o o1 (by omega)
      have b := hq.2.1 o o1 (by omega)
      rw [if_neg (fun z => by rw [z, hx] at b; omega)]
      exact a
  · have e128 : ctM m u mv p l 128 x = if x = u then S 88 34 else m 128 x := by unfold ctM; rw [← h1]; simp (disch := omega) only [wr_a]; unfold wr; by_cases q : x = u <;> simp [q]
    rw [e128, w.1, w.2.1]
    by_cases q : x = u
    · rw [if_pos q, if_pos q, if_pos q, if_neg (by omega)]
    · rw [if_neg q, if_neg q, if_neg q]; exact h4 x x1 x2
set_option maxHeartbeats 4000000 in
set_option maxRecDepth 100000 in
theorem y_comeTo (d : Nat) (hd : 0 ≤ d) (n : Nat) (ok : pO) (mem : pM) (hU : SUp n ok) (S : pM) (hS : SRm S mem) (hq9 : SIq S) (u mv p l op : Int) (hu : 0 ≤ u ∧ u < 1024) (hmv : -1 ≤ mv ∧ mv < 38) (hp : -1 ≤ p ∧ p < 1024) (hl : (p = -1 ∧ l = 0) ∨ (0 ≤ p ∧ p < S 88 34 ∧ l = S 109 (S 108 p) + 1)) : PM mi_X7_comeTo d [vr 123, vi u, vi mv, vi p] n ok mem n (fun r ok' mem' => r = none ∧ ok = ok' ∧ SRm (cmB S u l p mv op) mem' ∧ FrC mem mem') := by
  obtain ⟨hT7, ⟨q124, q125, q126, q127, q128, q129, q130⟩, hT6, q132, q133⟩ := id hU
  refine PM.of (by decide) (by decide) (Nat.le_refl _) (Nat.le_of_ble_eq_true rfl) ?_
  refine pw_aload_n 0 rfl dX7_comeTo_0 rfl ?_
  refine pw_gR 4 128 dX7_comeTo_1 cOk7 (by assumption) (by decide) kw_560 (by decide) rfl ?_
  refine pw_iload_n 1 rfl dX7_comeTo_4 rfl ?_
  refine pw_iaload dX7_comeTo_5 (by assumption) (by omega) (by omega) (fun r5 => ?_)
  have e128 := hS.2.2.2 u hu.1 hu.2
  rw [e128] at r5 ⊢
  have hxx := hq9.2.2.1 u hu.1 hu.2
  have hq1 := hq9.1
  refine pw_iconst dX7_comeTo_6 ?_
  refine pw_icmp_ne 20 (by decide) dX7_comeTo_7 (by split <;> omega) (by omega) (fun c7 => ?_) (fun c7 => ?_)
  · skip
    have hx : S 109 u ≠ -1 := fun z => c7 (if_pos z)
    refine pw_vret dX7_comeTo_20 rfl rfl ?_
    refine ⟨rfl, rfl, ?_, fun _ _ => rfl, fun _ _ => rfl⟩
    have e : cmB S u l p mv op = S := by unfold cmB; rw [if_pos hx]
    rw [e]; exact hS
  · skip
    have hx : S 109 u = -1 := by
      by_cases q : S 109 u = -1
      · exact q
      · rw [if_neg q] at c7; omega
    have hrm := hq9.room hu.1 hu.2 hx
    refine pw_aload_n 0 rfl dX7_comeTo_10 rfl ?_
    refine pw_gI 13 13 rfl dX7_comeTo_11 cOk7 (by assumption) (by decide) kw_573 (by decide) (fun r11 => ?_)
    rw [hS.1] at r11 ⊢
    refine pw_sipush dX7_comeTo_14 (by decide) ?_
    refine pw_icmp_lt 21 (by decide) dX7_comeTo_17 (by omega) (by omega) (fun c17 => ?_) (fun c17 => ?_)
    · skip
      refine pw_aload_n 0 rfl dX7_comeTo_21 rfl ?_
      refine pw_gR 4 128 dX7_comeTo_22 cOk7 (by assumption) (by decide) kw_560 (by decide) rfl ?_
      refine pw_iload_n 1 rfl dX7_comeTo_25 rfl ?_
      refine pw_aload_n 0 rfl dX7_comeTo_26 rfl ?_
      refine pw_gI 13 13 rfl dX7_comeTo_27 cOk7 (by assumption) (by decide) kw_573 (by decide) (fun r27 => ?_)
      rw [hS.1] at r27 ⊢
      refine pw_iastore dX7_comeTo_30 (by assumption) (by omega) (by omega) (by omega) ?_
      refine pw_aload_n 0 rfl dX7_comeTo_31 rfl ?_
      refine pw_gR 0 124 dX7_comeTo_32 cOk7 (by assumption) (by decide) kw_553 (by decide) rfl ?_
      refine pw_aload_n 0 rfl dX7_comeTo_35 rfl ?_
      refine pw_gI 13 13 rfl dX7_comeTo_36 cOk7 (by assumption) (by decide) kw_573 (by decide) (fun r36 => ?_)
      try simp (disch := omega) only [wr_s, wr_a, wr_k] at r36 ⊢
      rw [hS.1] at r36 ⊢
      refine pw_iload_n 1 rfl dX7_comeTo_39 rfl ?_
      refine pw_iastore dX7_comeTo_40 (by assumption) (by omega) (by omega) (by omega) ?_
      refine pw_aload_n 0 rfl dX7_comeTo_41 rfl ?_
      refine pw_gR 2 126 dX7_comeTo_42 cOk7 (by assumption) (by decide) kw_557 (by decide) rfl ?_
      refine pw_aload_n 0 rfl dX7_comeTo_45 rfl ?_
      refine pw_gI 13 13 rfl dX7_comeTo_46 cOk7 (by assumption) (by decide) kw_573 (by decide) (fun r46 => ?_)
      try simp (disch := omega) only [wr_s, wr_a, wr_k] at r46 ⊢
      rw [hS.1] at r46 ⊢
      refine pw_iload_n 2 rfl dX7_comeTo_49 rfl ?_
      refine pw_iastore dX7_comeTo_50 (by assumption) (by omega) (by omega) (by omega) ?_
      refine pw_aload_n 0 rfl dX7_comeTo_51 rfl ?_
      refine pw_gR 3 127 dX7_comeTo_52 cOk7 (by assumption) (by decide) kw_559 (by decide) rfl ?_
      refine pw_aload_n 0 rfl dX7_comeTo_55 rfl ?_
      refine pw_gI 13 13 rfl dX7_comeTo_56 cOk7 (by assumption) (by decide) kw_573 (by decide) (fun r56 => ?_)
      try simp (disch := omega) only [wr_s, wr_a, wr_k] at r56 ⊢
      rw [hS.1] at r56 ⊢
      refine pw_iload_n 3 rfl dX7_comeTo_59 rfl ?_
      refine pw_iastore dX7_comeTo_60 (by assumption) (by omega) (by omega) (by omega) ?_
      refine pw_aload_n 0 rfl dX7_comeTo_61 rfl ?_
      refine pw_gR 1 125 dX7_comeTo_62 cOk7 (by assumption) (by decide) kw_555 (by decide) rfl ?_
      refine pw_aload_n 0 rfl dX7_comeTo_65 rfl ?_
      refine pw_gI 13 13 rfl dX7_comeTo_66 cOk7 (by assumption) (by decide) kw_573 (by decide) (fun r66 => ?_)
      try simp (disch := omega) only [wr_s, wr_a, wr_k] at r66 ⊢
      rw [hS.1] at r66 ⊢
      refine pw_iload_n 3 rfl dX7_comeTo_69 rfl ?_
      refine pw_iconst dX7_comeTo_70 ?_
      refine pw_icmp_ne 78 (by decide) dX7_comeTo_71 (by omega) (by omega) (fun c71 => ?_) (fun c71 => ?_)
      · skip
        have hp9 : 0 ≤ p ∧ p < S 88 34 ∧ l = S 109 (S 108 p) + 1 := by rcases hl with z | z; exact absurd z.1 c71; exact z
        have e125 := (hS.2.2.1 p hp9.1 hp9.2.1).2.1
        have hq2 := hq9.2.1 p hp9.1 hp9.2.1
        refine pw_aload_n 0 rfl dX7_comeTo_78 rfl ?_
        refine pw_gR 1 125 dX7_comeTo_79 cOk7 (by assumption) (by decide) kw_555 (by decide) rfl ?_
        refine pw_iload_n 3 rfl dX7_comeTo_82 rfl ?_
        refine pw_iaload dX7_comeTo_83 (by assumption) (by omega) (by omega) (fun r83 => ?_)
        try simp (disch := omega) only [wr_s, wr_a, wr_k] at r83 ⊢
        rw [e125] at r83 ⊢
        refine pw_iconst dX7_comeTo_84 ?_
        refine pw_iadd dX7_comeTo_85 ?_
        refine pw_iastore dX7_comeTo_86 (by assumption) (by omega) (by omega) (by omega) ?_
        refine pw_aload_n 0 rfl dX7_comeTo_87 rfl ?_
        refine pw_dup dX7_comeTo_88 rfl ?_
        refine pw_gI 13 13 rfl dX7_comeTo_89 cOk7 (by assumption) (by decide) kw_573 (by decide) (fun r89 => ?_)
        try simp (disch := omega) only [wr_s, wr_a, wr_k] at r89 ⊢
        rw [hS.1] at r89 ⊢
        refine pw_iconst dX7_comeTo_92 ?_
        refine pw_iadd dX7_comeTo_93 ?_
        refine pw_pI 13 13 rfl dX7_comeTo_94 cOk7 (by assumption) (by decide) kw_573 rfl rfl (by decide) (by omega) ?_
        refine pw_vret dX7_comeTo_97 rfl rfl ?_
        have eM : wr (wr (wr (wr (wr (wr mem 128 u (S 88 34)) 124 (S 88 34) u) 126 (S 88 34) mv) 127 (S 88 34) p) 125 (S 88 34) (S 109 (S 108 p) + 1)) 123 13 (S 88 34 + 1) = ctM mem u mv p l := by rw [← hp9.2.2]; unfold ctM; rw [hS.1]
        rw [eM]
        refine ⟨rfl, rfl, ?_, ctM_f _ _ _ _ _⟩
        have e : cmB S u l p mv op = cmN S u l p mv op := by unfold cmB; rw [if_neg (fun z => z hx)]
        rw [e]; exact ctM_r hS hq9 op hu hx (by omega)
      · skip
        have hl0 : l = 0 := by rcases hl with z | z; exact z.2; omega
        refine pw_iconst dX7_comeTo_74 ?_
        refine pw_goto 86 (by decide) dX7_comeTo_75 ?_
        refine pw_iastore dX7_comeTo_86 (by assumption) (by omega) (by omega) (by omega) ?_
        refine pw_aload_n 0 rfl dX7_comeTo_87 rfl ?_
        refine pw_dup dX7_comeTo_88 rfl ?_
        refine pw_gI 13 13 rfl dX7_comeTo_89 cOk7 (by assumption) (by decide) kw_573 (by decide) (fun r89 => ?_)
        try simp (disch := omega) only [wr_s, wr_a, wr_k] at r89 ⊢
        rw [hS.1] at r89 ⊢
        refine pw_iconst dX7_comeTo_92 ?_
        refine pw_iadd dX7_comeTo_93 ?_
        refine pw_pI 13 13 rfl dX7_comeTo_94 cOk7 (by assumption) (by decide) kw_573 rfl rfl (by decide) (by omega) ?_
        refine pw_vret dX7_comeTo_97 rfl rfl ?_
        have eM : wr (wr (wr (wr (wr (wr mem 128 u (S 88 34)) 124 (S 88 34) u) 126 (S 88 34) mv) 127 (S 88 34) p) 125 (S 88 34) 0) 123 13 (S 88 34 + 1) = ctM mem u mv p l := by rw [hl0]; unfold ctM; rw [hS.1]
        rw [eM]
        refine ⟨rfl, rfl, ?_, ctM_f _ _ _ _ _⟩
        have e : cmB S u l p mv op = cmN S u l p mv op := by unfold cmB; rw [if_neg (fun z => z hx)]
        rw [e]; exact ctM_r hS hq9 op hu hx (by omega)
    · skip
      exfalso; omega
def lfM (m : pM) (k op : Int) : pM := if op ≠ 0 ∧ m 123 15 = -1 then wr (wr m 129 k 0) 123 15 k else wr m 129 k (if op ≠ 0 then 0 else -1)
set_option maxHeartbeats 4000000 in
set_option maxRecDepth 100000 in
theorem y_look (d : Nat) (hd : 4 ≤ d) (n : Nat) (ok : pO) (mem : pM) (hN : NUp n ok) (b : Nat) (hC : ChUp n ok b) (A : pM) (c : Int) (v : Int → Int) (hI : cIn A c) (hS : CS A c mem b) (hV : CV A c mem b v) (hv : pOkv A c v) (hU : SUp n ok) (hch : mem 123 8 = (b : Int)) (k : Int) (hk : 0 ≤ k ∧ k < 1024) (ht : 0 ≤ mem 2 1 ∧ mem 2 1 ≤ 700000000) : PM mi_X7_lookForOpen d [vr 123, vi k] n ok mem n (fun r ok' mem' => r = none ∧ ok = ok' ∧ lfM mem k (oRes A c v) = mem') := by
  obtain ⟨hN5, hN3⟩ := id hN
  obtain ⟨hC0, ⟨hC1, hC2, hC3, hC4, hC5, hC6, hC7⟩, hC8, ⟨hC9, hC10, hC11, hC12, hC13, hC14, hC15⟩, hC16, hC17, hb5, hb59⟩ := id hC
  obtain ⟨hR, hD, hSo⟩ := id hS
  have hOk := hI.ok
  obtain ⟨hT7, ⟨q124, q125, q126, q127, q128, q129, q130⟩, hT6, q132, q133⟩ := id hU
  refine PM.of (by decide) (by decide) (Nat.le_refl _) (Nat.le_of_ble_eq_true rfl) ?_
  refine pw_aload_n 0 rfl dX7_lookForOpen_0 rfl ?_
  refine pw_gV 8 8 b rfl dX7_lookForOpen_1 cOk7 (by assumption) (by decide) kw_565 (by decide) hch ?_
  refine pw_iconst dX7_lookForOpen_4 ?_
  refine pw_callV (d' := d - 1) (As := [_]) (ci := 0) dX7_lookForOpen_5 ok_X0_opens kw_658 rfl rfl (Of.o (by assumption)) (by omega) rfl (Nat.le_of_ble_eq_true rfl) (h_opens (d - 1) (by omega) n ok mem hN b hC A c v hI hS hV hv 0 (by omega) (by omega)) (Nat.le_refl _) (Or.inl rfl) (fun r ok1 mem1 hq => ?_)
  obtain ⟨rfl, rfl, em⟩ := hq
  have em : mem = mem1 := em
  subst em
  have h01 := oRes_01 A c v
  refine pw_istore_n 2 rfl dX7_lookForOpen_8 (by decide) ?_
  refine pw_aload_n 0 rfl dX7_lookForOpen_9 rfl ?_
  refine pw_gR 5 129 dX7_lookForOpen_10 cOk7 (by assumption) (by decide) kw_561 (by decide) rfl ?_
  refine pw_iload_n 1 rfl dX7_lookForOpen_13 rfl ?_
  refine pw_iload_n 2 rfl dX7_lookForOpen_14 rfl ?_
  refine pw_if_eq 22 (by decide) dX7_lookForOpen_15 (by omega) (fun c15 => ?_) (fun c15 => ?_)
  · skip
    refine pw_iconst dX7_lookForOpen_22 ?_
    refine pw_iastore dX7_lookForOpen_23 (by assumption) (by omega) (by omega) (by omega) ?_
    refine pw_iload_n 2 rfl dX7_lookForOpen_24 rfl ?_
    refine pw_if_eq 41 (by decide) dX7_lookForOpen_25 (by omega) (fun c25 => ?_) (fun c25 => ?_)
    · skip
      refine pw_vret dX7_lookForOpen_41 rfl rfl ?_
      refine ⟨rfl, rfl, ?_⟩
      unfold lfM; rw [if_neg (fun z => z.1 c15), if_neg (fun z => z c15)]
    · skip
      exfalso; omega
  · skip
    refine pw_iconst dX7_lookForOpen_18 ?_
    refine pw_goto 23 (by decide) dX7_lookForOpen_19 ?_
    refine pw_iastore dX7_lookForOpen_23 (by assumption) (by omega) (by omega) (by omega) ?_
    refine pw_iload_n 2 rfl dX7_lookForOpen_24 rfl ?_
    refine pw_if_eq 41 (by decide) dX7_lookForOpen_25 (by omega) (fun c25 => ?_) (fun c25 => ?_)
    · skip
      exfalso; omega
    · skip
      refine pw_aload_n 0 rfl dX7_lookForOpen_28 rfl ?_
      refine pw_gI 15 15 rfl dX7_lookForOpen_29 cOk7 (by assumption) (by decide) kw_576 (by decide) (fun r29 => ?_)
      try simp (disch := omega) only [wr_s, wr_a, wr_k] at r29 ⊢
      refine pw_iconst dX7_lookForOpen_32 ?_
      refine pw_icmp_ne 41 (by decide) dX7_lookForOpen_33 (by omega) (by omega) (fun c33 => ?_) (fun c33 => ?_)
      · skip
        refine pw_vret dX7_lookForOpen_41 rfl rfl ?_
        refine ⟨rfl, rfl, ?_⟩
        unfold lfM; rw [if_neg (fun z => c33 z.2), if_pos c15]
      · skip
        refine pw_aload_n 0 rfl dX7_lookForOpen_36 rfl ?_
        refine pw_iload_n 1 rfl dX7_lookForOpen_37 rfl ?_
        refine pw_pI 15 15 rfl dX7_lookForOpen_38 cOk7 (by assumption) (by decide) kw_576 rfl rfl (by decide) (by omega) ?_
        refine pw_vret dX7_lookForOpen_41 rfl rfl ?_
        refine ⟨rfl, rfl, ?_⟩
        unfold lfM; rw [if_pos ⟨c15, by omega⟩]
