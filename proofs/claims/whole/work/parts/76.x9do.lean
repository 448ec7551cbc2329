/-! ===== the class's own methods: typed moves, jam, places, marks, what is written ===== -/
theorem cIn_j {A A2 : pM} {c : Int} (h : cIn A c) (e : ∀ a, 89 ≤ a → a ≤ 98 → A2 a = A a) (h99 : 0 ≤ A2 99 c ∧ A2 99 c ≤ 99) (h100 : -1 ≤ A2 100 c ∧ A2 100 c ≤ 15) : cIn A2 c := by
  obtain ⟨i1, i2, i3, i4, i5, i6⟩ := h
  refine ⟨by rw [e 89 (by omega) (by omega)]; exact i1, by rw [e 89 (by omega) (by omega), e 90 (by omega) (by omega), e 91 (by omega) (by omega), e 92 (by omega) (by omega), e 93 (by omega) (by omega)]; exact i2, by rw [e 94 (by omega) (by omega), e 95 (by omega) (by omega), e 96 (by omega) (by omega), e 97 (by omega) (by omega), e 98 (by omega) (by omega)]; exact i3, h99, h100, by rw [pW_s (fun a a1 a2 a3 => e a a1 (by omega))]; exact i6⟩
theorem RE_2 {m m1 m2 : pM} (h : RE m m1) (g : RE m1 m2) : RE m m2 := fun a a1 a2 => (g a a1 a2).trans (h a a1 a2)
/-- what the reference keeps, typed -/
theorem RI_type {A : pM} (h : RI A) (v : Int) : RI (rType A v).2 := by
  unfold rType; split
  · exact RI_ref h _
  · split
    · exact RI_ref h _
    · refine RI_say (RI_c h (IOk_c h.1 (fun a a1 a2 => by simp (disch := omega) only [wr_a])) (KOk_c h.2.1 (by simp (disch := omega) only [wr_a]) (by simp (disch := omega) only [wr_a])) (by simp (disch := omega) only [wr_a, wr_k]; exact h.2.2.1) (by simp (disch := omega) only [wr_a, wr_k]; exact h.2.2.2.1) ?_ ?_ (fun a a1 a2 => by simp (disch := omega) only [wr_a]) (fun k k1 k2 _ => by simp (disch := omega) only [wr_a, wr_k]) (fun _ z => ⟨by rw [wr_k _ _ _ _ (by omega), wr_a _ _ _ (by omega)] at z; exact z, chEq.of (fun a a1 a2 _ => by simp (disch := omega) only [wr_a])⟩)) _
      · have t := h.2.2.2.2.1
        refine ⟨by rw [wr_s]; omega, fun j j1 j2 => ?_⟩
        rw [wr_s] at j2
        rw [wr_a _ _ _ (by omega)]
        by_cases q : j = A 88 24
        · rw [q, wr_s]; omega
        · rw [wr_k _ _ _ _ q]; exact t.2 j j1 (by omega)
      · exact fun j j1 j2 => by simp (disch := omega) only [wr_a]; exact h.2.2.2.2.2.2.2.2 j j1 j2
theorem RI_untype {A : pM} (h : RI A) : RI (rUntype A).2 := by
  unfold rUntype
  refine RI_say (RI_c h (IOk_c h.1 (fun a a1 a2 => by simp (disch := omega) only [wr_a])) (KOk_c h.2.1 (by simp (disch := omega) only [wr_a]) (by simp (disch := omega) only [wr_a])) (by simp (disch := omega) only [wr_a, wr_k]; exact h.2.2.1) (by simp (disch := omega) only [wr_a, wr_k]; exact h.2.2.2.1) ?_ ?_ (fun a a1 a2 => by simp (disch := omega) only [wr_a]) (fun k k1 k2 _ => by simp (disch := omega) only [wr_a, wr_k]) (fun _ z => ⟨by rw [wr_k _ _ _ _ (by omega)] at z; exact z, chEq.of (fun a a1 a2 _ => by simp (disch := omega) only [wr_a])⟩)) _
  · refine ⟨by rw [wr_s]; omega, fun j j1 j2 => ?_⟩
    rw [wr_s] at j2; omega
  · exact fun j j1 j2 => by simp (disch := omega) only [wr_a]; exact h.2.2.2.2.2.2.2.2 j j1 j2
theorem IOk_jam {A : pM} (h : RI A) {c j s : Int} (hc : 0 ≤ c ∧ c ≤ 2) (hj : 0 ≤ j ∧ j ≤ 99) (hs : -1 ≤ s ∧ s ≤ 15) : (∀ c', 0 ≤ c' → c' ≤ 2 → c' ≠ c → chX A (wr (wr A 99 c j) 100 c s) c') ∧ IOk (wr (wr A 99 c j) 100 c s) := by
  have hch : ∀ c', 0 ≤ c' → c' ≤ 2 → c' ≠ c → chX A (wr (wr A 99 c j) 100 c s) c' := fun c' _ _ hne => ⟨fun r _ _ => by simp (disch := omega) only [wr_a], fun a a1 a2 s _ _ => by simp (disch := omega) only [wr_a], by simp (disch := omega) only [wr_a], fun a a1 a2 s _ _ => by simp (disch := omega) only [wr_a], fun j _ _ => by simp (disch := omega) only [wr_a], by simp (disch := omega) only [wr_a, wr_k], by simp (disch := omega) only [wr_a, wr_k], by simp (disch := omega) only [wr_a], fun i _ _ => by simp (disch := omega) only [wr_a]⟩
  exact ⟨hch, IOk_one h.1 (cIn_j (h.1 c hc.1 hc.2) (fun a a1 a2 => by simp (disch := omega) only [wr_a]) (by rw [wr_a _ _ _ (by omega), wr_s]; exact hj) (by rw [wr_s]; exact hs)) hch⟩
theorem RI_jam {A : pM} (h : RI A) (c j s : Int) : RI (rJam A c j s).2 := by
  unfold rJam; split
  · exact RI_ref h _
  · split
    · exact RI_ref h _
    · obtain ⟨-, i2⟩ := IOk_jam h (c := c) (j := j) (s := s) (by omega) (by omega) (by omega)
      refine RI_say (RI_c h i2 (KOk_c h.2.1 (by simp (disch := omega) only [wr_a]) (by simp (disch := omega) only [wr_a])) (by simp (disch := omega) only [wr_a]; exact h.2.2.1) (by simp (disch := omega) only [wr_a]; exact h.2.2.2.1) ?_ ?_ (fun a a1 a2 => by simp (disch := omega) only [wr_a]) (fun k k1 k2 _ => by simp (disch := omega) only [wr_a]) (fun _ z => ⟨by rw [wr_a _ _ _ (by omega), wr_a _ _ _ (by omega)] at z; exact z, chEq.of (fun a a1 a2 _ => by simp (disch := omega) only [wr_a])⟩)) _
      · unfold RIt; simp (disch := omega) only [wr_a]; exact h.2.2.2.2.1
      · unfold RIm; simp (disch := omega) only [wr_a]; exact h.2.2.2.2.2.2.2.2
/-- only places of chest c changed in the reference -/
theorem RI_v {A A2 : pM} (h : RI A) {c : Int} (hc : 0 ≤ c ∧ c ≤ 2) (e : ∀ a, 89 ≤ a → a ≤ 122 → a ≠ 92 → A2 a = A a) (e8 : A2 88 = A 88) (e92 : ∀ j, (j < 16 * c ∨ 16 * c + 16 ≤ j) → A2 92 j = A 92 j) (hv : pOkv A c (aAt A2 c)) : RI A2 := by
  refine RI_c h (IOk_one h.1 (cIn_v (h.1 c hc.1 hc.2) (fun a a1 a2 a3 => e a a1 (by omega) a3) hv) (fun c' _ _ q => chX_v (fun a a1 a2 a3 => e a a1 (by omega) a3) e92 c' q)) (KOk_c h.2.1 (e _ (by omega) (by omega) (by omega)) (e _ (by omega) (by omega) (by omega))) (by rw [e8]; exact h.2.2.1) (by rw [e8]; exact h.2.2.2.1) ?_ ?_ (fun a a1 a2 => e a (by omega) (by omega) (by omega)) (fun k _ _ _ => by rw [e8]) (fun _ z => ⟨by rw [e8] at z; exact z, chEq.of (fun a a1 a2 a3 => e a a1 (by omega) a3)⟩)
  · unfold RIt; rw [e8, e 106 (by omega) (by omega) (by omega)]; exact h.2.2.2.2.1
  · unfold RIm; rw [e 119 (by omega) (by omega) (by omega)]; exact h.2.2.2.2.2.2.2.2
theorem set_v {A : pM} {c : Int} (x : Int) {s : Int} (s1 : 0 ≤ s) (s2 : s ≤ 15) (hk : A 90 (16 * c + s) ≠ -1) : rSet A c x 16 92 (16 * c + s) = setV A c (aAt A c) x s := by
  have e := rSet_92 A c x 16 s.toNat
  rw [Int.toNat_of_nonneg s1] at e
  rw [e, if_pos ⟨by omega, hk⟩]; unfold setV; rw [if_neg hk]
theorem set_ok {A : pM} {c : Int} (h : cIn A c) (x : Int) : pOkv A c (aAt (rSet A c x 16) c) := fun s s1 s2 hk => by
  have e : aAt (rSet A c x 16) c s = setV A c (aAt A c) x s := set_v x s1 s2 hk
  rw [e]; exact setV_ok h.ok.1.2.2 _ _ s s1 s2 hk
theorem RI_set {A : pM} (h : RI A) {c : Int} (hc : 0 ≤ c ∧ c ≤ 2) (x : Int) : RI (rSet A c x 16) := RI_v h hc (fun a _ _ a3 => rSet_a a3) (rSet_a (by omega)) (fun j hj => rSet_out _ _ _ _ (by omega) j hj) (set_ok (h.1 c hc.1 hc.2) x)
theorem RI_ofN {A : pM} (h : RI A) (c x : Int) : RI (rOfN A c x).2 := by
  unfold rOfN; split
  · exact RI_ref h _
  · split
    · exact RI_ref h _
    · exact RI_say (RI_set h (by omega) x) _
theorem RI_placed {A : pM} (h : RI A) {c s t : Int} (hc : 0 ≤ c ∧ c ≤ 2) (hs : 0 ≤ s ∧ s ≤ 15) (ht : 0 ≤ t ∧ t < A 91 (16 * c + s)) : RI (wr A 92 (16 * c + s) t) := by
  refine RI_v h hc (fun a _ _ a3 => wr_a _ _ _ a3) (wr_a _ _ _ (by omega)) (fun j hj => wr_k _ _ _ _ (by omega)) (fun s' s1 s2 hk => ?_)
  show 0 ≤ wr A 92 (16 * c + s) t 92 (16 * c + s') ∧ wr A 92 (16 * c + s) t 92 (16 * c + s') < A 91 (16 * c + s')
  by_cases q : s' = s
  · rw [q, wr_s]; exact ht
  · rw [wr_k _ _ _ _ (by omega)]; exact (h.1 c hc.1 hc.2).ok.2.1 s' s1 s2 hk
theorem RI_place {A : pM} (h : RI A) (c s t : Int) : RI (rPlace A c s t).2 := by
  unfold rPlace; split
  · exact RI_ref h _
  · split
    · exact RI_ref h _
    · split
      · exact RI_met h _
      · split
        · exact RI_met h _
        · exact RI_say (RI_placed h (by omega) (by omega) (by omega)) _
theorem RI_m {A A2 : pM} (h : RI A) (e : ∀ a, 88 ≤ a → a ≤ 122 → a ≠ 119 → A2 a = A a) (hm : RIm A2) : RI A2 := by
  have e8 := e 88 (by omega) (by omega) (by omega)
  refine RI_c h (IOk_c h.1 (fun a a1 a2 => e a (by omega) (by omega) (by omega))) (KOk_c h.2.1 (e _ (by omega) (by omega) (by omega)) (e _ (by omega) (by omega) (by omega))) (by rw [e8]; exact h.2.2.1) (by rw [e8]; exact h.2.2.2.1) ?_ hm (fun a a1 a2 => e a (by omega) (by omega) (by omega)) (fun k _ _ _ => by rw [e8]) (fun _ z => ⟨by rw [e8] at z; exact z, chEq.of (fun a a1 a2 a3 => e a (by omega) (by omega) (by omega))⟩)
  unfold RIt; rw [e8, e 106 (by omega) (by omega) (by omega)]; exact h.2.2.2.2.1
theorem RI_mark {A : pM} (h : RI A) (f k v : Int) (hv : v = 0 ∨ v = 1) : RI (rMark A f k v).2 := by
  unfold rMark; split
  · exact RI_ref h _
  · refine RI_say (RI_m h (fun a _ _ a3 => fiM_a _ _ _ _ a3) (fun j j1 j2 => ?_)) _
    unfold fiM; split
    · exact hv
    · exact h.2.2.2.2.2.2.2.2 j j1 j2
theorem RI_markAll {A : pM} (h : RI A) : RI (rMarkAll A).2 := by
  unfold rMarkAll; split
  · exact RI_ref h _
  · refine RI_say (RI_m h (fun a _ _ a3 => ?_) (fun j j1 j2 => ?_)) _
    · funext j; unfold maM; rw [if_neg (fun z => a3 z.1)]
    · unfold maM; rw [if_pos ⟨rfl, j1, j2⟩]; split <;> omega
theorem RI_exm {A A2 : pM} (h : RI A) {c : Int} (e : EXM A A2 c) : RI A2 := RI_n h (fun a a1 a2 => e.1 a (by omega) (by omega) (by omega)) (e.1 _ (by omega) (by omega) (by omega)) (e.1 _ (by omega) (by omega) (by omega)) (fun a a1 a2 => e.1 a (by omega) (by omega) (by omega)) (by rw [e.2.1 19 (by omega)]; exact h.2.2.1) (fun k hk => e.2.1 k (by omega))
set_option maxHeartbeats 4000000 in
set_option maxRecDepth 100000 in
theorem p_type (d : Nat) (hd : 1 ≤ d) (n : Nat) (ok : pO) (mem : pM) (hU : ClUp n ok) (hG : RG mem mem n) (hRI : RI mem) (v : Int) (hv : -2147483648 ≤ v ∧ v ≤ 2147483647)  : PM mi_X9_type d [vr 1, vi v] n ok mem n (fun r ok' mem' => r = some (vi (rType mem v).1) ∧ ok = ok' ∧ RE mem mem' ∧ RG (rType mem v).2 mem' n) := by
  obtain ⟨hP9, hN, ⟨hn4, ho0, ho1, ho2⟩, hCh, hDr, hM, ⟨hW80, hW82, hW84⟩, q86, q87, hSU, hn133⟩ := id hU
  obtain ⟨hN5, hN3⟩ := id hN
  obtain ⟨hM4, hM9⟩ := id hM
  obtain ⟨hW8, hWA, -, -⟩ := id hW80
  have hIO := hRI.1
  have hKO := hRI.2.1
  have ht9 := hRI.2.2.1
  have hq0 := hRI.2.2.2.1
  have hty := hRI.2.2.2.2.1
  have hNR := hG.1
  have hNR1 : mem 2 1 = mem 88 19 := hNR.1
  have hty1 := hty.1
  have hT := hG.2.2.2.1
  have hT1 : mem 1 11 = mem 88 24 := hT.1
  have hat := hG.2.2.2.2.1
  refine PM.of (by decide) (by decide) (Nat.le_refl _) (Nat.le_of_ble_eq_true rfl) ?_
  refine pw_iload_n 1 rfl dX9_type_0 rfl ?_
  refine pw_callS (d' := d - 1) (As := [_]) dX9_type_1 ok_X9_isMove kw_762 (by omega) rfl (Nat.le_of_ble_eq_true rfl) (p_isMove (d - 1) (by omega) n ok _ _ (by omega)) (Nat.le_refl _) (Or.inl rfl) (fun r ok1 mem1 hq => ?_)
  obtain ⟨rfl, rfl, rfl⟩ := hq
  refine pw_if_ne 14 (by decide) dX9_type_4 (by split <;> omega) (fun c4 => ?_) (fun c4 => ?_)
  · skip
    rw [ne_eq, bz_n] at c4
    refine pw_aload_n 0 rfl dX9_type_14 rfl ?_
    refine pw_gI 11 11 rfl dX9_type_15 cOk9 (by assumption) (by decide) kw_358 (by decide) (fun r15 => ?_)
    rw [hT1] at r15 ⊢
    refine pw_bipush dX9_type_18 (by decide) ?_
    refine pw_icmp_lt 30 (by decide) dX9_type_20 (by omega) (by omega) (fun c20 => ?_) (fun c20 => ?_)
    · skip
      refine pw_aload_n 0 rfl dX9_type_30 rfl ?_
      refine pw_gR 8 86 dX9_type_31 cOk9 (by assumption) (by decide) kw_355 (by decide) rfl ?_
      refine pw_aload_n 0 rfl dX9_type_34 rfl ?_
      refine pw_gI 11 11 rfl dX9_type_35 cOk9 (by assumption) (by decide) kw_358 (by decide) (fun r35 => ?_)
      rw [hT1] at r35 ⊢
      refine pw_iload_n 1 rfl dX9_type_38 rfl ?_
      refine pw_iastore dX9_type_39 (by assumption) (by omega) (by omega) (by omega) ?_
      refine pw_aload_n 0 rfl dX9_type_40 rfl ?_
      refine pw_dup dX9_type_41 rfl ?_
      refine pw_gI 11 11 rfl dX9_type_42 cOk9 (by assumption) (by decide) kw_358 (by decide) (fun r42 => ?_)
      try simp (disch := omega) only [wr_s, wr_a, wr_k] at r42 ⊢
      rw [hT1] at r42 ⊢
      refine pw_iconst dX9_type_45 ?_
      refine pw_iadd dX9_type_46 ?_
      refine pw_pI 11 11 rfl dX9_type_47 cOk9 (by assumption) (by decide) kw_358 rfl rfl (by decide) (by omega) ?_
      refine pw_aload_n 0 rfl dX9_type_50 rfl ?_
      refine pw_aload_n 0 rfl dX9_type_51 rfl ?_
      refine pw_gI 11 11 rfl dX9_type_52 cOk9 (by assumption) (by decide) kw_358 (by decide) (fun r52 => ?_)
      try simp (disch := omega) only [wr_s, wr_a, wr_k] at r52 ⊢
      refine pw_callV (d' := d - 1) (As := [_]) (ci := 9) dX9_type_55 ok_X9_answered kw_423 rfl rfl (Of.o (by assumption)) (by omega) rfl (Nat.le_of_ble_eq_true rfl) (p_answered (d - 1) (by omega) n ok _ hP9 _) (Nat.le_refl _) (Or.inl rfl) (fun r ok1 mem1 hq => ?_)
      obtain ⟨rfl, rfl, rfl⟩ := hq
      refine pw_iret dX9_type_58 rfl rfl ?_
      have e9 : rType mem v = rSay (wr (wr mem 106 (mem 88 24) v) 88 24 (mem 88 24 + 1)) (mem 88 24 + 1) := by
        unfold rType; (repeat' split) <;> first | rfl | (exfalso; omega) | contradiction
      rw [e9]
      refine ⟨rfl, rfl, fun a a1 a2 => by simp (disch := omega) only [wr_a], ?_⟩
      have hI2 : IOk (wr (wr mem 106 (mem 88 24) v) 88 24 (mem 88 24 + 1)) := IOk_c hIO (fun a a1 a2 => by simp (disch := omega) only [wr_a])
      have hK2 : KOk (wr (wr mem 106 (mem 88 24) v) 88 24 (mem 88 24 + 1)) := KOk_c hKO (by simp (disch := omega) only [wr_a]) (by simp (disch := omega) only [wr_a])
      refine RG_st ?_ hI2 hK2 0
      refine RG_plain hG hIO hKO (fun a a1 a2 => by simp (disch := omega) only [wr_a]) (fun a a1 a2 => by simp (disch := omega) only [wr_a]) (fun k hk => by simp (disch := omega) only [wr_a, wr_k]) (fun a ha => by simp (disch := omega) only [wr_a]) (by simp (disch := omega) only [wr_a, wr_k]) ?_ ⟨by simp (disch := omega) only [wr_a, wr_k]; exact hat.1, by simp (disch := omega) only [wr_a, wr_k]; exact hat.2.1, by simp (disch := omega) only [wr_a, wr_k]; exact hat.2.2.1, by simp (disch := omega) only [wr_a, wr_k]; exact hat.2.2.2⟩ (RMk_c hG.2.2.2.2.2.1 (by simp (disch := omega) only [wr_a, wr_k]) (by simp (disch := omega) only [wr_a, wr_k]) (by simp (disch := omega) only [wr_a, wr_k]) (by simp (disch := omega) only [wr_a]) (by simp (disch := omega) only [wr_a]) (by simp (disch := omega) only [wr_a])) (REx_c hG.2.2.2.2.2.2.1 (by simp (disch := omega) only [wr_a, wr_k]) (by simp (disch := omega) only [wr_a]) (by simp (disch := omega) only [wr_a]) (by simp (disch := omega) only [wr_a]))
      refine ⟨by rw [wr_s, wr_s], fun i i1 i2 => ?_⟩
      rw [wr_s] at i2
      simp (disch := omega) only [wr_a]
      by_cases q : i = mem 88 24
      · rw [q, wr_s, wr_s]
      · rw [wr_k _ _ _ _ q, wr_k _ _ _ _ q]; exact hT.2 i i1 (by omega)
    · skip
      refine pw_aload_n 0 rfl dX9_type_23 rfl ?_
      refine pw_bipush dX9_type_24 (by decide) ?_
      refine pw_callV (d' := d - 1) (As := [_]) (ci := 9) dX9_type_26 ok_X9_refused kw_406 rfl rfl (Of.o (by assumption)) (by omega) rfl (Nat.le_of_ble_eq_true rfl) (p_refused (d - 1) (by omega) n ok _ hP9 _ (by omega)) (Nat.le_refl _) (Or.inl rfl) (fun r ok1 mem1 hq => ?_)
      obtain ⟨rfl, rfl, rfl⟩ := hq
      refine pw_iret dX9_type_29 rfl rfl ?_
      have e9 : rType mem v = rRef mem (-5) := by
        unfold rType; (repeat' split) <;> first | rfl | (exfalso; omega) | contradiction
      rw [e9]; exact ⟨rfl, rfl, RE1 _ _, RG_st hG hIO hKO _⟩
  · skip
    rw [bz_0] at c4
    refine pw_aload_n 0 rfl dX9_type_7 rfl ?_
    refine pw_bipush dX9_type_8 (by decide) ?_
    refine pw_callV (d' := d - 1) (As := [_]) (ci := 9) dX9_type_10 ok_X9_refused kw_406 rfl rfl (Of.o (by assumption)) (by omega) rfl (Nat.le_of_ble_eq_true rfl) (p_refused (d - 1) (by omega) n ok _ hP9 _ (by omega)) (Nat.le_refl _) (Or.inl rfl) (fun r ok1 mem1 hq => ?_)
    obtain ⟨rfl, rfl, rfl⟩ := hq
    refine pw_iret dX9_type_13 rfl rfl ?_
    have e9 : rType mem v = rRef mem (-3) := by
      unfold rType; (repeat' split) <;> first | rfl | (exfalso; omega) | contradiction
    rw [e9]; exact ⟨rfl, rfl, RE1 _ _, RG_st hG hIO hKO _⟩
set_option maxHeartbeats 4000000 in
set_option maxRecDepth 100000 in
theorem p_untype (d : Nat) (hd : 1 ≤ d) (n : Nat) (ok : pO) (mem : pM) (hU : ClUp n ok) (hG : RG mem mem n) (hRI : RI mem) : PM mi_X9_untype d [vr 1] n ok mem n (fun r ok' mem' => r = some (vi (rUntype mem).1) ∧ ok = ok' ∧ RE mem mem' ∧ RG (rUntype mem).2 mem' n) := by
  obtain ⟨hP9, hN, ⟨hn4, ho0, ho1, ho2⟩, hCh, hDr, hM, ⟨hW80, hW82, hW84⟩, q86, q87, hSU, hn133⟩ := id hU
  obtain ⟨hN5, hN3⟩ := id hN
  obtain ⟨hM4, hM9⟩ := id hM
  obtain ⟨hW8, hWA, -, -⟩ := id hW80
  have hIO := hRI.1
  have hKO := hRI.2.1
  have ht9 := hRI.2.2.1
  have hq0 := hRI.2.2.2.1
  have hty := hRI.2.2.2.2.1
  have hNR := hG.1
  have hNR1 : mem 2 1 = mem 88 19 := hNR.1
  have hty1 := hty.1
  have hT := hG.2.2.2.1
  have hT1 : mem 1 11 = mem 88 24 := hT.1
  have hat := hG.2.2.2.2.1
  refine PM.of (by decide) (by decide) (Nat.le_refl _) (Nat.le_of_ble_eq_true rfl) ?_
  refine pw_aload_n 0 rfl dX9_untype_0 rfl ?_
  refine pw_gI 11 11 rfl dX9_untype_1 cOk9 (by assumption) (by decide) kw_358 (by decide) (fun r1 => ?_)
  rw [hT1] at r1 ⊢
  refine pw_istore_n 1 rfl dX9_untype_4 (by decide) ?_
  refine pw_aload_n 0 rfl dX9_untype_5 rfl ?_
  refine pw_iconst dX9_untype_6 ?_
  refine pw_pI 11 11 rfl dX9_untype_7 cOk9 (by assumption) (by decide) kw_358 rfl rfl (by decide) (by omega) ?_
  refine pw_aload_n 0 rfl dX9_untype_10 rfl ?_
  refine pw_iload_n 1 rfl dX9_untype_11 rfl ?_
  refine pw_callV (d' := d - 1) (As := [_]) (ci := 9) dX9_untype_12 ok_X9_answered kw_423 rfl rfl (Of.o (by assumption)) (by omega) rfl (Nat.le_of_ble_eq_true rfl) (p_answered (d - 1) (by omega) n ok _ hP9 _) (Nat.le_refl _) (Or.inl rfl) (fun r ok1 mem1 hq => ?_)
  obtain ⟨rfl, rfl, rfl⟩ := hq
  refine pw_iret dX9_untype_15 rfl rfl ?_
  have e9 : rUntype mem = rSay (wr mem 88 24 0) (mem 88 24) := by
    unfold rUntype; rfl
  rw [e9]
  refine ⟨rfl, rfl, fun a a1 a2 => by simp (disch := omega) only [wr_a], ?_⟩
  have hI2 : IOk (wr mem 88 24 0) := IOk_c hIO (fun a a1 a2 => by simp (disch := omega) only [wr_a])
  have hK2 : KOk (wr mem 88 24 0) := KOk_c hKO (by simp (disch := omega) only [wr_a]) (by simp (disch := omega) only [wr_a])
  refine RG_st ?_ hI2 hK2 0
  refine RG_plain hG hIO hKO (fun a a1 a2 => by simp (disch := omega) only [wr_a]) (fun a a1 a2 => by simp (disch := omega) only [wr_a]) (fun k hk => by simp (disch := omega) only [wr_a, wr_k]) (fun a ha => by simp (disch := omega) only [wr_a]) (by simp (disch := omega) only [wr_a, wr_k]) ⟨by rw [wr_s, wr_s], fun i i1 i2 => ?_⟩ ⟨by simp (disch := omega) only [wr_a, wr_k]; exact hat.1, by simp (disch := omega) only [wr_a, wr_k]; exact hat.2.1, by simp (disch := omega) only [wr_a, wr_k]; exact hat.2.2.1, by simp (disch := omega) only [wr_a, wr_k]; exact hat.2.2.2⟩ (RMk_c hG.2.2.2.2.2.1 (by simp (disch := omega) only [wr_a, wr_k]) (by simp (disch := omega) only [wr_a, wr_k]) (by simp (disch := omega) only [wr_a, wr_k]) (by simp (disch := omega) only [wr_a]) (by simp (disch := omega) only [wr_a]) (by simp (disch := omega) only [wr_a])) (REx_c hG.2.2.2.2.2.2.1 (by simp (disch := omega) only [wr_a, wr_k]) (by simp (disch := omega) only [wr_a]) (by simp (disch := omega) only [wr_a]) (by simp (disch := omega) only [wr_a]))
  rw [wr_s] at i2; omega
theorem CS_b {A : pM} {c : Int} {m m1 : pM} {b : Nat} (h : CS A c m b) (e : ∀ a, b < a → a ≤ b + 15 → m1 a = m a) (ek : ∀ k, k ≠ 13 → k ≠ 14 → m1 b k = m b k) : CS A c m1 b := by
  unfold CS CR CD SO
  rw [e (b + 1) (by omega) (by omega), e (b + 2) (by omega) (by omega), e (b + 3) (by omega) (by omega), e (b + 5) (by omega) (by omega), e (b + 6) (by omega) (by omega), e (b + 8) (by omega) (by omega), e (b + 9) (by omega) (by omega), e (b + 10) (by omega) (by omega), e (b + 11) (by omega) (by omega), e (b + 12) (by omega) (by omega), e (b + 13) (by omega) (by omega), e (b + 14) (by omega) (by omega), e (b + 15) (by omega) (by omega), ek 10 (by omega) (by omega), ek 11 (by omega) (by omega), ek 12 (by omega) (by omega)]
  exact h
set_option maxHeartbeats 4000000 in
set_option maxRecDepth 100000 in
theorem p_jam (d : Nat) (hd : 1 ≤ d) (n : Nat) (ok : pO) (mem : pM) (hU : ClUp n ok) (hG : RG mem mem n) (hRI : RI mem) (c j s : Int) (hc : -2147483648 ≤ c ∧ c ≤ 2147483647) (hj : -2147483648 ≤ j ∧ j ≤ 2147483647) (hs : -2147483648 ≤ s ∧ s ≤ 2147483647)  : PM mi_X9_jam d [vr 1, vi c, vi j, vi s] n ok mem n (fun r ok' mem' => r = some (vi (rJam mem c j s).1) ∧ ok = ok' ∧ RE mem mem' ∧ RG (rJam mem c j s).2 mem' n) := by
  obtain ⟨hP9, hN, ⟨hn4, ho0, ho1, ho2⟩, hCh, hDr, hM, ⟨hW80, hW82, hW84⟩, q86, q87, hSU, hn133⟩ := id hU
  obtain ⟨hN5, hN3⟩ := id hN
  obtain ⟨hM4, hM9⟩ := id hM
  obtain ⟨hW8, hWA, -, -⟩ := id hW80
  have hIO := hRI.1
  have hKO := hRI.2.1
  have ht9 := hRI.2.2.1
  have hq0 := hRI.2.2.2.1
  have hty := hRI.2.2.2.2.1
  have hNR := hG.1
  have hNR1 : mem 2 1 = mem 88 19 := hNR.1
  refine PM.of (by decide) (by decide) (Nat.le_refl _) (Nat.le_of_ble_eq_true rfl) ?_
  refine pw_iload_n 1 rfl dX9_jam_0 rfl ?_
  refine pw_callS (d' := d - 1) (As := [_]) dX9_jam_1 ok_X9_isChest kw_403 (by omega) rfl (Nat.le_of_ble_eq_true rfl) (p_isChest (d - 1) (by omega) n ok _ _ (by omega)) (Nat.le_refl _) (Or.inl rfl) (fun r ok1 mem1 hq => ?_)
  obtain ⟨rfl, rfl, rfl⟩ := hq
  refine pw_if_ne 14 (by decide) dX9_jam_4 (by split <;> omega) (fun c4 => ?_) (fun c4 => ?_)
  · skip
    rw [ne_eq, bz_n] at c4
    refine pw_iload_n 2 rfl dX9_jam_14 rfl ?_
    refine pw_if_lt 36 (by decide) dX9_jam_15 (by omega) (fun c15 => ?_) (fun c15 => ?_)
    · skip
      refine pw_aload_n 0 rfl dX9_jam_36 rfl ?_
      refine pw_bipush dX9_jam_37 (by decide) ?_
      refine pw_callV (d' := d - 1) (As := [_]) (ci := 9) dX9_jam_39 ok_X9_refused kw_406 rfl rfl (Of.o (by assumption)) (by omega) rfl (Nat.le_of_ble_eq_true rfl) (p_refused (d - 1) (by omega) n ok _ hP9 _ (by omega)) (Nat.le_refl _) (Or.inl rfl) (fun r ok1 mem1 hq => ?_)
      obtain ⟨rfl, rfl, rfl⟩ := hq
      refine pw_iret dX9_jam_42 rfl rfl ?_
      have e9 : rJam mem c j s = rRef mem (-3) := by
        unfold rJam; (repeat' split) <;> first | rfl | (exfalso; omega) | contradiction
      rw [e9]; exact ⟨rfl, rfl, RE1 _ _, RG_st hG hIO hKO _⟩
    · skip
      refine pw_iload_n 2 rfl dX9_jam_18 rfl ?_
      refine pw_bipush dX9_jam_19 (by decide) ?_
      refine pw_icmp_gt 36 (by decide) dX9_jam_21 (by omega) (by omega) (fun c21 => ?_) (fun c21 => ?_)
      · skip
        refine pw_aload_n 0 rfl dX9_jam_36 rfl ?_
        refine pw_bipush dX9_jam_37 (by decide) ?_
        refine pw_callV (d' := d - 1) (As := [_]) (ci := 9) dX9_jam_39 ok_X9_refused kw_406 rfl rfl (Of.o (by assumption)) (by omega) rfl (Nat.le_of_ble_eq_true rfl) (p_refused (d - 1) (by omega) n ok _ hP9 _ (by omega)) (Nat.le_refl _) (Or.inl rfl) (fun r ok1 mem1 hq => ?_)
        obtain ⟨rfl, rfl, rfl⟩ := hq
        refine pw_iret dX9_jam_42 rfl rfl ?_
        have e9 : rJam mem c j s = rRef mem (-3) := by
          unfold rJam; (repeat' split) <;> first | rfl | (exfalso; omega) | contradiction
        rw [e9]; exact ⟨rfl, rfl, RE1 _ _, RG_st hG hIO hKO _⟩
      · skip
        refine pw_iload_n 3 rfl dX9_jam_24 rfl ?_
        refine pw_iconst dX9_jam_25 ?_
        refine pw_icmp_eq 43 (by decide) dX9_jam_26 (by omega) (by omega) (fun c26 => ?_) (fun c26 => ?_)
        · skip
          obtain ⟨b, hbc⟩ : ∃ b : Nat, (b : Int) = 5 + 18 * c := ⟨(5 + 18 * c).toNat, by omega⟩
          have hC : ChUp n ok b := hCh b (by omega)
          have hok : ok 4 (c).toNat = true := by rcases (show c = 0 ∨ c = 1 ∨ c = 2 by omega) with e | e | e <;> (rw [e]; assumption)
          obtain ⟨hS, hV, hJ, hKR⟩ := hG.2.1 c b (by omega) (by omega) hbc
          have hI := hIO c (by omega) (by omega)
          have hOk := hI.ok
          obtain ⟨hR, hD, hSo⟩ := id hS
          obtain ⟨hC0, ⟨hC1, hC2, hC3, hC4, hC5, hC6, hC7⟩, hC8, ⟨hC9, hC10, hC11, hC12, hC13, hC14, hC15⟩, hC16, hC17, hb5, hb59⟩ := id hC
          refine pw_aload_n 0 rfl dX9_jam_43 rfl ?_
          refine pw_gR 1 4 dX9_jam_44 cOk9 (by assumption) (by decide) kw_348 (by decide) rfl ?_
          refine pw_iload_n 1 rfl dX9_jam_47 rfl ?_
          refine pw_aaload (L := 3) dX9_jam_48 (by omega) (by omega) rfl rfl (by decide) (by omega) (by omega) b hbc hok ?_
          refine pw_astore dX9_jam_49 (by decide) ?_
          refine pw_aload dX9_jam_51 rfl ?_
          refine pw_gI 13 13 rfl dX9_jam_53 cOk0 (by assumption) (by decide) kw_258 (by decide) (fun r53 => ?_)
          rw [hJ.1] at r53 ⊢
          refine pw_istore dX9_jam_56 (by decide) ?_
          refine pw_aload dX9_jam_58 rfl ?_
          refine pw_iload_n 2 rfl dX9_jam_60 rfl ?_
          refine pw_pI 13 13 rfl dX9_jam_61 cOk0 (by assumption) (by decide) kw_258 rfl rfl (by decide) (by omega) ?_
          refine pw_aload dX9_jam_64 rfl ?_
          refine pw_iload_n 3 rfl dX9_jam_66 rfl ?_
          refine pw_pI 14 14 rfl dX9_jam_67 cOk0 (by assumption) (by decide) kw_262 rfl rfl (by decide) (by omega) ?_
          refine pw_aload_n 0 rfl dX9_jam_70 rfl ?_
          refine pw_iload dX9_jam_71 rfl ?_
          refine pw_callV (d' := d - 1) (As := [_]) (ci := 9) dX9_jam_73 ok_X9_answered kw_423 rfl rfl (Of.o (by assumption)) (by omega) rfl (Nat.le_of_ble_eq_true rfl) (p_answered (d - 1) (by omega) n ok _ hP9 _) (Nat.le_refl _) (Or.inl rfl) (fun r ok1 mem1 hq => ?_)
          obtain ⟨rfl, rfl, rfl⟩ := hq
          refine pw_iret dX9_jam_76 rfl rfl ?_
          obtain ⟨hch, hI2⟩ := IOk_jam hRI (c := c) (j := j) (s := s) (by omega) (by omega) (by omega)
          have e9 : rJam mem c j s = rSay (wr (wr mem 99 c j) 100 c s) (mem 99 c) := by
            unfold rJam; (repeat' split) <;> first | rfl | (exfalso; omega) | contradiction
          rw [e9]
          refine ⟨rfl, rfl, fun a a1 a2 => by simp (disch := omega) only [wr_a], ?_⟩
          refine RG_st ?_ hI2 (KOk_c hKO (by simp (disch := omega) only [wr_a]) (by simp (disch := omega) only [wr_a])) 0
          refine RG_one hG hIO hKO (by omega) (by omega) hbc ?_ hch (fun a a1 a2 _ _ _ => by simp (disch := omega) only [wr_a]) (fun j _ _ _ _ => by simp (disch := omega) only [wr_a]) (fun a _ ha => by simp (disch := omega) only [wr_a])
          refine ⟨CS_t hI (CS_b hS (fun a a1 a2 => by simp (disch := omega) only [wr_a]) (fun k k1 k2 => by rw [wr_k _ _ _ _ k2, wr_k _ _ _ _ k1])) (chEq.of (fun a a1 a2 _ => by simp (disch := omega) only [wr_a])), CV_t (hV.m (by simp (disch := omega) only [wr_a])) (fun s s1 s2 => ⟨by simp (disch := omega) only [wr_a], fun _ => by show wr (wr mem 99 c j) 100 c _ 92 _ = mem 92 _; simp (disch := omega) only [wr_a]⟩), ⟨by rw [wr_k _ _ _ _ (by omega), wr_s, wr_a _ _ _ (by omega), wr_s], by rw [wr_s, wr_s]⟩, ?_⟩
          unfold KR; simp (disch := omega) only [wr_a]; exact hKR
        · skip
          refine pw_iload_n 3 rfl dX9_jam_29 rfl ?_
          refine pw_callS (d' := d - 1) (As := [_]) dX9_jam_30 ok_X9_isSeat kw_431 (by omega) rfl (Nat.le_of_ble_eq_true rfl) (p_isSeat (d - 1) (by omega) n ok _ _ (by omega)) (Nat.le_refl _) (Or.inl rfl) (fun r ok1 mem1 hq => ?_)
          obtain ⟨rfl, rfl, rfl⟩ := hq
          refine pw_if_ne 43 (by decide) dX9_jam_33 (by split <;> omega) (fun c33 => ?_) (fun c33 => ?_)
          · skip
            rw [ne_eq, bz_n] at c33
            obtain ⟨b, hbc⟩ : ∃ b : Nat, (b : Int) = 5 + 18 * c := ⟨(5 + 18 * c).toNat, by omega⟩
            have hC : ChUp n ok b := hCh b (by omega)
            have hok : ok 4 (c).toNat = true := by rcases (show c = 0 ∨ c = 1 ∨ c = 2 by omega) with e | e | e <;> (rw [e]; assumption)
            obtain ⟨hS, hV, hJ, hKR⟩ := hG.2.1 c b (by omega) (by omega) hbc
            have hI := hIO c (by omega) (by omega)
            have hOk := hI.ok
            obtain ⟨hR, hD, hSo⟩ := id hS
            obtain ⟨hC0, ⟨hC1, hC2, hC3, hC4, hC5, hC6, hC7⟩, hC8, ⟨hC9, hC10, hC11, hC12, hC13, hC14, hC15⟩, hC16, hC17, hb5, hb59⟩ := id hC
            refine pw_aload_n 0 rfl dX9_jam_43 rfl ?_
            refine pw_gR 1 4 dX9_jam_44 cOk9 (by assumption) (by decide) kw_348 (by decide) rfl ?_
            refine pw_iload_n 1 rfl dX9_jam_47 rfl ?_
            refine pw_aaload (L := 3) dX9_jam_48 (by omega) (by omega) rfl rfl (by decide) (by omega) (by omega) b hbc hok ?_
            refine pw_astore dX9_jam_49 (by decide) ?_
            refine pw_aload dX9_jam_51 rfl ?_
            refine pw_gI 13 13 rfl dX9_jam_53 cOk0 (by assumption) (by decide) kw_258 (by decide) (fun r53 => ?_)
            rw [hJ.1] at r53 ⊢
            refine pw_istore dX9_jam_56 (by decide) ?_
            refine pw_aload dX9_jam_58 rfl ?_
            refine pw_iload_n 2 rfl dX9_jam_60 rfl ?_
            refine pw_pI 13 13 rfl dX9_jam_61 cOk0 (by assumption) (by decide) kw_258 rfl rfl (by decide) (by omega) ?_
            refine pw_aload dX9_jam_64 rfl ?_
            refine pw_iload_n 3 rfl dX9_jam_66 rfl ?_
            refine pw_pI 14 14 rfl dX9_jam_67 cOk0 (by assumption) (by decide) kw_262 rfl rfl (by decide) (by omega) ?_
            refine pw_aload_n 0 rfl dX9_jam_70 rfl ?_
            refine pw_iload dX9_jam_71 rfl ?_
            refine pw_callV (d' := d - 1) (As := [_]) (ci := 9) dX9_jam_73 ok_X9_answered kw_423 rfl rfl (Of.o (by assumption)) (by omega) rfl (Nat.le_of_ble_eq_true rfl) (p_answered (d - 1) (by omega) n ok _ hP9 _) (Nat.le_refl _) (Or.inl rfl) (fun r ok1 mem1 hq => ?_)
            obtain ⟨rfl, rfl, rfl⟩ := hq
            refine pw_iret dX9_jam_76 rfl rfl ?_
            obtain ⟨hch, hI2⟩ := IOk_jam hRI (c := c) (j := j) (s := s) (by omega) (by omega) (by omega)
            have e9 : rJam mem c j s = rSay (wr (wr mem 99 c j) 100 c s) (mem 99 c) := by
              unfold rJam; (repeat' split) <;> first | rfl | (exfalso; omega) | contradiction
            rw [e9]
            refine ⟨rfl, rfl, fun a a1 a2 => by simp (disch := omega) only [wr_a], ?_⟩
            refine RG_st ?_ hI2 (KOk_c hKO (by simp (disch := omega) only [wr_a]) (by simp (disch := omega) only [wr_a])) 0
            refine RG_one hG hIO hKO (by omega) (by omega) hbc ?_ hch (fun a a1 a2 _ _ _ => by simp (disch := omega) only [wr_a]) (fun j _ _ _ _ => by simp (disch := omega) only [wr_a]) (fun a _ ha => by simp (disch := omega) only [wr_a])
            refine ⟨CS_t hI (CS_b hS (fun a a1 a2 => by simp (disch := omega) only [wr_a]) (fun k k1 k2 => by rw [wr_k _ _ _ _ k2, wr_k _ _ _ _ k1])) (chEq.of (fun a a1 a2 _ => by simp (disch := omega) only [wr_a])), CV_t (hV.m (by simp (disch := omega) only [wr_a])) (fun s s1 s2 => ⟨by simp (disch := omega) only [wr_a], fun _ => by show wr (wr mem 99 c j) 100 c _ 92 _ = mem 92 _; simp (disch := omega) only [wr_a]⟩), ⟨by rw [wr_k _ _ _ _ (by omega), wr_s, wr_a _ _ _ (by omega), wr_s], by rw [wr_s, wr_s]⟩, ?_⟩
            unfold KR; simp (disch := omega) only [wr_a]; exact hKR
          · skip
            rw [bz_0] at c33
            refine pw_aload_n 0 rfl dX9_jam_36 rfl ?_
            refine pw_bipush dX9_jam_37 (by decide) ?_
            refine pw_callV (d' := d - 1) (As := [_]) (ci := 9) dX9_jam_39 ok_X9_refused kw_406 rfl rfl (Of.o (by assumption)) (by omega) rfl (Nat.le_of_ble_eq_true rfl) (p_refused (d - 1) (by omega) n ok _ hP9 _ (by omega)) (Nat.le_refl _) (Or.inl rfl) (fun r ok1 mem1 hq => ?_)
            obtain ⟨rfl, rfl, rfl⟩ := hq
            refine pw_iret dX9_jam_42 rfl rfl ?_
            have e9 : rJam mem c j s = rRef mem (-3) := by
              unfold rJam; (repeat' split) <;> first | rfl | (exfalso; omega) | contradiction
            rw [e9]; exact ⟨rfl, rfl, RE1 _ _, RG_st hG hIO hKO _⟩
  · skip
    rw [bz_0] at c4
    refine pw_aload_n 0 rfl dX9_jam_7 rfl ?_
    refine pw_bipush dX9_jam_8 (by decide) ?_
    refine pw_callV (d' := d - 1) (As := [_]) (ci := 9) dX9_jam_10 ok_X9_refused kw_406 rfl rfl (Of.o (by assumption)) (by omega) rfl (Nat.le_of_ble_eq_true rfl) (p_refused (d - 1) (by omega) n ok _ hP9 _ (by omega)) (Nat.le_refl _) (Or.inl rfl) (fun r ok1 mem1 hq => ?_)
    obtain ⟨rfl, rfl, rfl⟩ := hq
    refine pw_iret dX9_jam_13 rfl rfl ?_
    have e9 : rJam mem c j s = rRef mem (-2) := by
      unfold rJam; (repeat' split) <;> first | rfl | (exfalso; omega) | contradiction
    rw [e9]; exact ⟨rfl, rfl, RE1 _ _, RG_st hG hIO hKO _⟩
set_option maxHeartbeats 4000000 in
set_option maxRecDepth 100000 in
theorem p_ofNumber (d : Nat) (hd : 2 ≤ d) (n : Nat) (ok : pO) (mem : pM) (hU : ClUp n ok) (hG : RG mem mem n) (hRI : RI mem) (c x : Int) (hc : -2147483648 ≤ c ∧ c ≤ 2147483647) (hx : -2147483648 ≤ x ∧ x ≤ 2147483647)  : PM mi_X9_ofNumber d [vr 1, vi c, vi x] n ok mem n (fun r ok' mem' => r = some (vi (rOfN mem c x).1) ∧ ok = ok' ∧ RE mem mem' ∧ RG (rOfN mem c x).2 mem' n) := by
  obtain ⟨hP9, hN, ⟨hn4, ho0, ho1, ho2⟩, hCh, hDr, hM, ⟨hW80, hW82, hW84⟩, q86, q87, hSU, hn133⟩ := id hU
  obtain ⟨hN5, hN3⟩ := id hN
  obtain ⟨hM4, hM9⟩ := id hM
  obtain ⟨hW8, hWA, -, -⟩ := id hW80
  have hIO := hRI.1
  have hKO := hRI.2.1
  have ht9 := hRI.2.2.1
  have hq0 := hRI.2.2.2.1
  have hty := hRI.2.2.2.2.1
  have hNR := hG.1
  have hNR1 : mem 2 1 = mem 88 19 := hNR.1
  refine PM.of (by decide) (by decide) (Nat.le_refl _) (Nat.le_of_ble_eq_true rfl) ?_
  refine pw_iload_n 1 rfl dX9_ofNumber_0 rfl ?_
  refine pw_callS (d' := d - 1) (As := [_]) dX9_ofNumber_1 ok_X9_isChest kw_403 (by omega) rfl (Nat.le_of_ble_eq_true rfl) (p_isChest (d - 1) (by omega) n ok _ _ (by omega)) (Nat.le_refl _) (Or.inl rfl) (fun r ok1 mem1 hq => ?_)
  obtain ⟨rfl, rfl, rfl⟩ := hq
  refine pw_if_ne 14 (by decide) dX9_ofNumber_4 (by split <;> omega) (fun c4 => ?_) (fun c4 => ?_)
  · skip
    rw [ne_eq, bz_n] at c4
    obtain ⟨b, hbc⟩ : ∃ b : Nat, (b : Int) = 5 + 18 * c := ⟨(5 + 18 * c).toNat, by omega⟩
    have hC : ChUp n ok b := hCh b (by omega)
    have hok : ok 4 (c).toNat = true := by rcases (show c = 0 ∨ c = 1 ∨ c = 2 by omega) with e | e | e <;> (rw [e]; assumption)
    obtain ⟨hS, hV, hJ, hKR⟩ := hG.2.1 c b (by omega) (by omega) hbc
    have hI := hIO c (by omega) (by omega)
    have hOk := hI.ok
    obtain ⟨hR, hD, hSo⟩ := id hS
    obtain ⟨hC0, ⟨hC1, hC2, hC3, hC4, hC5, hC6, hC7⟩, hC8, ⟨hC9, hC10, hC11, hC12, hC13, hC14, hC15⟩, hC16, hC17, hb5, hb59⟩ := id hC
    refine pw_aload_n 0 rfl dX9_ofNumber_14 rfl ?_
    refine pw_gR 1 4 dX9_ofNumber_15 cOk9 (by assumption) (by decide) kw_348 (by decide) rfl ?_
    refine pw_iload_n 1 rfl dX9_ofNumber_18 rfl ?_
    refine pw_aaload (L := 3) dX9_ofNumber_19 (by omega) (by omega) rfl rfl (by decide) (by omega) (by omega) b hbc hok ?_
    refine pw_astore_n 3 rfl dX9_ofNumber_20 (by decide) ?_
    refine pw_iload_n 2 rfl dX9_ofNumber_21 rfl ?_
    refine pw_if_lt 33 (by decide) dX9_ofNumber_22 (by omega) (fun c22 => ?_) (fun c22 => ?_)
    · skip
      refine pw_aload_n 0 rfl dX9_ofNumber_33 rfl ?_
      refine pw_bipush dX9_ofNumber_34 (by decide) ?_
      refine pw_callV (d' := d - 1) (As := [_]) (ci := 9) dX9_ofNumber_36 ok_X9_refused kw_406 rfl rfl (Of.o (by assumption)) (by omega) rfl (Nat.le_of_ble_eq_true rfl) (p_refused (d - 1) (by omega) n ok _ hP9 _ (by omega)) (Nat.le_refl _) (Or.inl rfl) (fun r ok1 mem1 hq => ?_)
      obtain ⟨rfl, rfl, rfl⟩ := hq
      refine pw_iret dX9_ofNumber_39 rfl rfl ?_
      have e9 : rOfN mem c x = rRef mem (-3) := by
        unfold rOfN; rw [aMul_pW]; (repeat' split) <;> first | rfl | (exfalso; omega) | contradiction
      rw [e9]; exact ⟨rfl, rfl, RE1 _ _, RG_st hG hIO hKO _⟩
    · skip
      refine pw_iload_n 2 rfl dX9_ofNumber_25 rfl ?_
      refine pw_aload_n 3 rfl dX9_ofNumber_26 rfl ?_
      refine pw_gI 11 11 rfl dX9_ofNumber_27 cOk0 (by assumption) (by decide) kw_254 (by decide) (fun r27 => ?_)
      rw [hD.2.1] at r27 ⊢
      refine pw_icmp_lt 40 (by decide) dX9_ofNumber_30 (by omega) (by omega) (fun c30 => ?_) (fun c30 => ?_)
      · skip
        refine pw_aload_n 3 rfl dX9_ofNumber_40 rfl ?_
        refine pw_callV (d' := d - 1) (As := []) (ci := 0) dX9_ofNumber_41 ok_X0_number kw_789 rfl rfl (Of.o (by assumption)) (by omega) rfl (Nat.le_of_ble_eq_true rfl) (h_number (d - 1) (by omega) n ok mem hN b hC mem c (aAt mem c) hI hS hV hOk.2.1) (Nat.le_refl _) (Or.inl rfl) (fun r ok1 mem1 hq => ?_)
        obtain ⟨rfl, rfl, rfl⟩ := hq
        rw [← aNum_v mem c 16 (by omega)]
        refine pw_istore dX9_ofNumber_44 (by decide) ?_
        refine pw_aload_n 3 rfl dX9_ofNumber_46 rfl ?_
        refine pw_iload_n 2 rfl dX9_ofNumber_47 rfl ?_
        refine pw_callV (d' := d - 1) (As := [_]) (ci := 0) dX9_ofNumber_48 ok_X0_standAt kw_794 rfl rfl (Of.o (by assumption)) (by omega) rfl (Nat.le_of_ble_eq_true rfl) (h_standAt (d - 1) (by omega) n ok mem hN b hC mem c (aAt mem c) hI hS hV hOk.2.1 x (by omega)) (Nat.le_refl _) (Or.inl rfl) (fun r ok1 mem1 hq => ?_)
        obtain ⟨rfl, rfl, hq1, hq2⟩ := hq
        refine pw_aload_n 0 rfl dX9_ofNumber_51 rfl ?_
        refine pw_iload dX9_ofNumber_52 rfl ?_
        refine pw_callV (d' := d - 1) (As := [_]) (ci := 9) dX9_ofNumber_54 ok_X9_answered kw_423 rfl rfl (Of.o (by assumption)) (by omega) rfl (Nat.le_of_ble_eq_true rfl) (p_answered (d - 1) (by omega) n ok _ hP9 _) (Nat.le_refl _) (Or.inl rfl) (fun r ok1 mem1 hq => ?_)
        obtain ⟨rfl, rfl, rfl⟩ := hq
        refine pw_iret dX9_ofNumber_57 rfl rfl ?_
        have e9 : rOfN mem c x = rSay (rSet mem c x 16) (aNum mem c 16) := by
          unfold rOfN; rw [aMul_pW]; (repeat' split) <;> first | rfl | (exfalso; omega) | contradiction
        rw [e9]
        have hR2 := RI_set hRI (c := c) (by omega) x
        have hfr : FrW (b + 4) mem mem1 := hq1
        refine ⟨rfl, rfl, fun a a1 a2 => by rw [wr_a _ _ _ (by omega)]; exact hfr a (by omega), RG_st ?_ hR2.1 hR2.2.1 0⟩
        refine RG_one hG hIO hKO (by omega) (by omega) hbc ?_ (fun c' _ _ q => chX_v (fun a a1 a2 a3 => rSet_a a3) (fun j hj => rSet_out _ _ _ _ (by omega) j hj) c' q) (fun a a1 a2 _ _ _ => rSet_a (by omega)) (fun j _ _ _ _ => by rw [rSet_a (by omega)]) (fun a _ ha => hfr a (by omega))
        exact RCx_v ⟨hS, hV, hJ, hKR⟩ hI (hKO c (by omega) (by omega)).2.1 (fun a a1 a2 a3 => rSet_a a3) (fun a a1 a2 a3 a4 => hfr a (by omega)) hq2 (fun s s1 s2 hk => set_v x s1 s2 hk)
      · skip
        refine pw_aload_n 0 rfl dX9_ofNumber_33 rfl ?_
        refine pw_bipush dX9_ofNumber_34 (by decide) ?_
        refine pw_callV (d' := d - 1) (As := [_]) (ci := 9) dX9_ofNumber_36 ok_X9_refused kw_406 rfl rfl (Of.o (by assumption)) (by omega) rfl (Nat.le_of_ble_eq_true rfl) (p_refused (d - 1) (by omega) n ok _ hP9 _ (by omega)) (Nat.le_refl _) (Or.inl rfl) (fun r ok1 mem1 hq => ?_)
        obtain ⟨rfl, rfl, rfl⟩ := hq
        refine pw_iret dX9_ofNumber_39 rfl rfl ?_
        have e9 : rOfN mem c x = rRef mem (-3) := by
          unfold rOfN; rw [aMul_pW]; (repeat' split) <;> first | rfl | (exfalso; omega) | contradiction
        rw [e9]; exact ⟨rfl, rfl, RE1 _ _, RG_st hG hIO hKO _⟩
  · skip
    rw [bz_0] at c4
    refine pw_aload_n 0 rfl dX9_ofNumber_7 rfl ?_
    refine pw_bipush dX9_ofNumber_8 (by decide) ?_
    refine pw_callV (d' := d - 1) (As := [_]) (ci := 9) dX9_ofNumber_10 ok_X9_refused kw_406 rfl rfl (Of.o (by assumption)) (by omega) rfl (Nat.le_of_ble_eq_true rfl) (p_refused (d - 1) (by omega) n ok _ hP9 _ (by omega)) (Nat.le_refl _) (Or.inl rfl) (fun r ok1 mem1 hq => ?_)
    obtain ⟨rfl, rfl, rfl⟩ := hq
    refine pw_iret dX9_ofNumber_13 rfl rfl ?_
    have e9 : rOfN mem c x = rRef mem (-2) := by
      unfold rOfN; (repeat' split) <;> first | rfl | (exfalso; omega) | contradiction
    rw [e9]; exact ⟨rfl, rfl, RE1 _ _, RG_st hG hIO hKO _⟩
set_option maxHeartbeats 4000000 in
set_option maxRecDepth 100000 in
theorem p_place (d : Nat) (hd : 2 ≤ d) (n : Nat) (ok : pO) (mem : pM) (hU : ClUp n ok) (hG : RG mem mem n) (hRI : RI mem) (c s t : Int) (hc : -2147483648 ≤ c ∧ c ≤ 2147483647) (hs : -2147483648 ≤ s ∧ s ≤ 2147483647) (ht : -2147483648 ≤ t ∧ t ≤ 2147483647)  : PM mi_X9_place d [vr 1, vi c, vi s, vi t] n ok mem n (fun r ok' mem' => r = some (vi (rPlace mem c s t).1) ∧ ok = ok' ∧ RE mem mem' ∧ RG (rPlace mem c s t).2 mem' n) := by
  obtain ⟨hP9, hN, ⟨hn4, ho0, ho1, ho2⟩, hCh, hDr, hM, ⟨hW80, hW82, hW84⟩, q86, q87, hSU, hn133⟩ := id hU
  obtain ⟨hN5, hN3⟩ := id hN
  obtain ⟨hM4, hM9⟩ := id hM
  obtain ⟨hW8, hWA, -, -⟩ := id hW80
  have hIO := hRI.1
  have hKO := hRI.2.1
  have ht9 := hRI.2.2.1
  have hq0 := hRI.2.2.2.1
  have hty := hRI.2.2.2.2.1
  have hNR := hG.1
  have hNR1 : mem 2 1 = mem 88 19 := hNR.1
  refine PM.of (by decide) (by decide) (Nat.le_refl _) (Nat.le_of_ble_eq_true rfl) ?_
  refine pw_aload_n 0 rfl dX9_place_0 rfl ?_
  refine pw_iload_n 1 rfl dX9_place_1 rfl ?_
  refine pw_iload_n 2 rfl dX9_place_2 rfl ?_
  refine pw_callV (d' := d - 1) (As := [_, _]) (ci := 9) dX9_place_3 ok_X9_refusalOfPart kw_453 rfl rfl (Of.o (by assumption)) (by omega) rfl (Nat.le_of_ble_eq_true rfl) (p_refusalOfPart (d - 1) (by omega) n ok mem hU mem hG hRI c s (by omega) (by omega)) (Nat.le_refl _) (Or.inl rfl) (fun r ok1 m1 hq => ?_)
  obtain ⟨rfl, hrp⟩ := hq
  obtain ⟨x, rfl, hxr, hrs⟩ := rp_split hrp
  clear hrp
  refine pw_istore dX9_place_6 (by decide) ?_
  refine pw_iload dX9_place_8 rfl ?_
  refine pw_if_eq 20 (by decide) dX9_place_10 (by omega) (fun c10 => ?_) (fun c10 => ?_)
  · skip
    have hz : x = 0 ∧ (0 ≤ c ∧ c ≤ 2) ∧ (0 ≤ s ∧ s ≤ 15) ∧ aComes mem c s = 0 ∧ mem = m1 := by
      rcases hrs with z | z
      · exact z
      · exact absurd c10 z.1
    obtain ⟨hx0, hc2, hs2, hcz, hm1⟩ := hz
    subst hm1
    obtain ⟨b, hbc⟩ : ∃ b : Nat, (b : Int) = 5 + 18 * c := ⟨(5 + 18 * c).toNat, by omega⟩
    have hC : ChUp n ok b := hCh b (by omega)
    have hok : ok 4 (c).toNat = true := by rcases (show c = 0 ∨ c = 1 ∨ c = 2 by omega) with e | e | e <;> (rw [e]; assumption)
    obtain ⟨hS, hV, hJ, hKR⟩ := hG.2.1 c b (by omega) (by omega) hbc
    have hI := hIO c (by omega) (by omega)
    have hOk := hI.ok
    obtain ⟨hR, hD, hSo⟩ := id hS
    obtain ⟨hC0, ⟨hC1, hC2, hC3, hC4, hC5, hC6, hC7⟩, hC8, ⟨hC9, hC10, hC11, hC12, hC13, hC14, hC15⟩, hC16, hC17, hb5, hb59⟩ := id hC
    have hkn := aComes_kind hcz
    have e2 : mem (b + 2) s = mem 90 (16 * c + s) := (hR.2.1 s hs2.1 hs2.2).1
    have e3 : mem (b + 3) s = mem 91 (16 * c + s) := by rw [(hR.2.1 s hs2.1 hs2.2).2.1]; unfold eSp; rw [if_neg hkn]
    have e4 : mem (b + 4) s = mem 92 (16 * c + s) := by rw [hV s hs2.1 hs2.2]; unfold eAv; rw [if_neg hkn]
    have e5 : mem (b + 5) s = mem 93 (16 * c + s) := (hR.2.1 s hs2.1 hs2.2).2.2 hkn
    refine pw_aload_n 0 rfl dX9_place_20 rfl ?_
    refine pw_gR 1 4 dX9_place_21 cOk9 (by assumption) (by decide) kw_348 (by decide) rfl ?_
    refine pw_iload_n 1 rfl dX9_place_24 rfl ?_
    refine pw_aaload (L := 3) dX9_place_25 (by omega) (by omega) rfl rfl (by decide) (by omega) (by omega) b hbc hok ?_
    refine pw_astore dX9_place_26 (by decide) ?_
    refine pw_iload_n 3 rfl dX9_place_28 rfl ?_
    refine pw_if_lt 43 (by decide) dX9_place_29 (by omega) (fun c29 => ?_) (fun c29 => ?_)
    · skip
      refine pw_aload_n 0 rfl dX9_place_43 rfl ?_
      refine pw_aload_n 0 rfl dX9_place_44 rfl ?_
      refine pw_gR 0 2 dX9_place_45 cOk9 (by assumption) (by decide) kw_347 (by decide) rfl ?_
      refine pw_iconst dX9_place_48 ?_
      refine pw_callV (d' := d - 1) (As := [_]) (ci := 5) dX9_place_49 ok_X5_met kw_410 rfl rfl (Of.o (by assumption)) (by omega) rfl (Nat.le_of_ble_eq_true rfl) (n_met (d - 1) (by omega) n ok mem hN _ (by omega)) (Nat.le_refl _) (Or.inl rfl) (fun r ok1 mem1 hq => ?_)
      obtain ⟨rfl, rfl, rfl⟩ := hq
      refine pw_callV (d' := d - 1) (As := [_]) (ci := 9) dX9_place_52 ok_X9_refused kw_406 rfl rfl (Of.o (by assumption)) (by omega) rfl (Nat.le_of_ble_eq_true rfl) (p_refused (d - 1) (by omega) n ok _ hP9 _ (by omega)) (Nat.le_refl _) (Or.inl rfl) (fun r ok1 mem1 hq => ?_)
      obtain ⟨rfl, rfl, rfl⟩ := hq
      refine pw_iret dX9_place_55 rfl rfl ?_
      have e9 : rPlace mem c s t = rMet mem (2) := by
        unfold rPlace; (repeat' split) <;> first | rfl | (exfalso; omega) | contradiction
      rw [e9]; exact ⟨rfl, rfl, RE_met _ _ _, RG_met hG hRI _⟩
    · skip
      refine pw_iload_n 3 rfl dX9_place_32 rfl ?_
      refine pw_aload dX9_place_33 rfl ?_
      refine pw_gR 3 (b + 3) dX9_place_35 cOk0 (by assumption) (by decide) kw_237 (by decide) rfl ?_
      refine pw_iload_n 2 rfl dX9_place_38 rfl ?_
      refine pw_iaload dX9_place_39 (by assumption) (by omega) (by omega) (fun r39 => ?_)
      rw [e3] at r39 ⊢
      refine pw_icmp_lt 56 (by decide) dX9_place_40 (by omega) (by omega) (fun c40 => ?_) (fun c40 => ?_)
      · skip
        refine pw_aload dX9_place_56 rfl ?_
        refine pw_gR 4 (b + 4) dX9_place_58 cOk0 (by assumption) (by decide) kw_240 (by decide) rfl ?_
        refine pw_iload_n 2 rfl dX9_place_61 rfl ?_
        refine pw_iaload dX9_place_62 (by assumption) (by omega) (by omega) (fun r62 => ?_)
        rw [e4] at r62 ⊢
        refine pw_istore dX9_place_63 (by decide) ?_
        refine pw_aload dX9_place_65 rfl ?_
        refine pw_gR 4 (b + 4) dX9_place_67 cOk0 (by assumption) (by decide) kw_240 (by decide) rfl ?_
        refine pw_iload_n 2 rfl dX9_place_70 rfl ?_
        refine pw_iload_n 3 rfl dX9_place_71 rfl ?_
        refine pw_iastore dX9_place_72 (by assumption) (by omega) (by omega) (by omega) ?_
        refine pw_aload_n 0 rfl dX9_place_73 rfl ?_
        refine pw_iload dX9_place_74 rfl ?_
        refine pw_callV (d' := d - 1) (As := [_]) (ci := 9) dX9_place_76 ok_X9_answered kw_423 rfl rfl (Of.o (by assumption)) (by omega) rfl (Nat.le_of_ble_eq_true rfl) (p_answered (d - 1) (by omega) n ok _ hP9 _) (Nat.le_refl _) (Or.inl rfl) (fun r ok1 mem1 hq => ?_)
        obtain ⟨rfl, rfl, rfl⟩ := hq
        refine pw_iret dX9_place_79 rfl rfl ?_
        have e9 : rPlace mem c s t = rSay (wr mem 92 (16 * c + s) t) (mem 92 (16 * c + s)) := by
          unfold rPlace; (repeat' split) <;> first | rfl | (exfalso; omega) | contradiction
        rw [e9]
        have hR2 := RI_placed hRI (c := c) (s := s) (t := t) (by omega) (by omega) (by omega)
        refine ⟨rfl, rfl, fun a a1 a2 => by simp (disch := omega) only [wr_a], RG_st ?_ hR2.1 hR2.2.1 0⟩
        refine RG_one hG hIO hKO (by omega) (by omega) hbc ?_ (fun c' _ _ q => chX_v (fun a a1 a2 a3 => wr_a _ _ _ a3) (fun j hj => wr_k _ _ _ _ (by omega)) c' q) (fun a a1 a2 _ _ _ => by simp (disch := omega) only [wr_a]) (fun j _ _ _ _ => by simp (disch := omega) only [wr_a]) (fun a _ ha => by simp (disch := omega) only [wr_a])
        refine RCx_v ⟨hS, hV, hJ, hKR⟩ hI (hKO c (by omega) (by omega)).2.1 (fun a a1 a2 a3 => wr_a _ _ _ a3) (fun a a1 a2 a3 a4 => by simp (disch := omega) only [wr_a]) (hV.up (x := t) hkn) (fun s' s1 s2 hk => ?_)
        unfold vUp
        by_cases q : s' = s
        · rw [if_pos q, q, wr_s]
        · rw [if_neg q, wr_k _ _ _ _ (by omega)]
      · skip
        refine pw_aload_n 0 rfl dX9_place_43 rfl ?_
        refine pw_aload_n 0 rfl dX9_place_44 rfl ?_
        refine pw_gR 0 2 dX9_place_45 cOk9 (by assumption) (by decide) kw_347 (by decide) rfl ?_
        refine pw_iconst dX9_place_48 ?_
        refine pw_callV (d' := d - 1) (As := [_]) (ci := 5) dX9_place_49 ok_X5_met kw_410 rfl rfl (Of.o (by assumption)) (by omega) rfl (Nat.le_of_ble_eq_true rfl) (n_met (d - 1) (by omega) n ok mem hN _ (by omega)) (Nat.le_refl _) (Or.inl rfl) (fun r ok1 mem1 hq => ?_)
        obtain ⟨rfl, rfl, rfl⟩ := hq
        refine pw_callV (d' := d - 1) (As := [_]) (ci := 9) dX9_place_52 ok_X9_refused kw_406 rfl rfl (Of.o (by assumption)) (by omega) rfl (Nat.le_of_ble_eq_true rfl) (p_refused (d - 1) (by omega) n ok _ hP9 _ (by omega)) (Nat.le_refl _) (Or.inl rfl) (fun r ok1 mem1 hq => ?_)
        obtain ⟨rfl, rfl, rfl⟩ := hq
        refine pw_iret dX9_place_55 rfl rfl ?_
        have e9 : rPlace mem c s t = rMet mem (2) := by
          unfold rPlace; (repeat' split) <;> first | rfl | (exfalso; omega) | contradiction
        rw [e9]; exact ⟨rfl, rfl, RE_met _ _ _, RG_met hG hRI _⟩
  · skip
    refine pw_aload_n 0 rfl dX9_place_13 rfl ?_
    refine pw_iload dX9_place_14 rfl ?_
    refine pw_callV (d' := d - 1) (As := [_]) (ci := 9) dX9_place_16 ok_X9_refused kw_406 rfl rfl (Of.o (by assumption)) (by omega) rfl (Nat.le_of_ble_eq_true rfl) (p_refused (d - 1) (by omega) n ok _ hP9 _ (by omega)) (Nat.le_refl _) (Or.inl rfl) (fun r ok1 mem1 hq => ?_)
    obtain ⟨rfl, rfl, rfl⟩ := hq
    refine pw_iret dX9_place_19 rfl rfl ?_
    rcases hrs with z | z
    · exact absurd z.1 c10
    · rcases z.2 with y | y | y
      · obtain ⟨y1, y2, y3⟩ := y
        subst y3; subst y2
        have e9 : rPlace mem c s t = rRef mem (-2) := by
          unfold rPlace; (repeat' split) <;> first | rfl | (exfalso; omega) | contradiction
        rw [e9]; exact ⟨rfl, rfl, RE1 _ _, RG_st hG hIO hKO _⟩
      · obtain ⟨y1, y2, y3, y4⟩ := y
        subst y4; subst y3
        have e9 : rPlace mem c s t = rRef mem (-3) := by
          unfold rPlace; (repeat' split) <;> first | rfl | (exfalso; omega) | contradiction
        rw [e9]; exact ⟨rfl, rfl, RE1 _ _, RG_st hG hIO hKO _⟩
      · obtain ⟨y1, y2, y3, y4, y5⟩ := y
        subst y4
        have e9 : rPlace mem c s t = rMet mem (aComes mem c s) := by
          unfold rPlace; (repeat' split) <;> first | rfl | (exfalso; omega) | contradiction
        rw [e9, ← y5]; exact ⟨rfl, rfl, RE_met _ _ _, RG_met hG hRI _⟩
set_option maxHeartbeats 4000000 in
set_option maxRecDepth 100000 in
theorem p_mark (d : Nat) (hd : 2 ≤ d) (n : Nat) (ok : pO) (mem : pM) (hU : ClUp n ok) (hG : RG mem mem n) (hRI : RI mem) (f k v : Int) (hf : -2147483648 ≤ f ∧ f ≤ 2147483647) (hk : -2147483648 ≤ k ∧ k ≤ 2147483647) (hv : -2147483648 ≤ v ∧ v ≤ 2147483647) (hv01 : v = 0 ∨ v = 1) : PM mi_X9_mark d [vr 1, vi f, vi k, vi v] n ok mem n (fun r ok' mem' => r = some (vi (rMark mem f k v).1) ∧ ok = ok' ∧ RE mem mem' ∧ RG (rMark mem f k v).2 mem' n) := by
  obtain ⟨hP9, hN, ⟨hn4, ho0, ho1, ho2⟩, hCh, hDr, hM, ⟨hW80, hW82, hW84⟩, q86, q87, hSU, hn133⟩ := id hU
  obtain ⟨hN5, hN3⟩ := id hN
  obtain ⟨hM4, hM9⟩ := id hM
  obtain ⟨hW8, hWA, -, -⟩ := id hW80
  have hIO := hRI.1
  have hKO := hRI.2.1
  have ht9 := hRI.2.2.1
  have hq0 := hRI.2.2.2.1
  have hty := hRI.2.2.2.2.1
  have hNR := hG.1
  have hNR1 : mem 2 1 = mem 88 19 := hNR.1
  refine PM.of (by decide) (by decide) (Nat.le_refl _) (Nat.le_of_ble_eq_true rfl) ?_
  refine pw_iload_n 1 rfl dX9_mark_0 rfl ?_
  refine pw_if_lt 24 (by decide) dX9_mark_1 (by omega) (fun c1 => ?_) (fun c1 => ?_)
  · skip
    refine pw_aload_n 0 rfl dX9_mark_24 rfl ?_
    refine pw_bipush dX9_mark_25 (by decide) ?_
    refine pw_callV (d' := d - 1) (As := [_]) (ci := 9) dX9_mark_27 ok_X9_refused kw_406 rfl rfl (Of.o (by assumption)) (by omega) rfl (Nat.le_of_ble_eq_true rfl) (p_refused (d - 1) (by omega) n ok _ hP9 _ (by omega)) (Nat.le_refl _) (Or.inl rfl) (fun r ok1 mem1 hq => ?_)
    obtain ⟨rfl, rfl, rfl⟩ := hq
    refine pw_iret dX9_mark_30 rfl rfl ?_
    have e9 : rMark mem f k v = rRef mem (-3) := by
      unfold rMark; (repeat' split) <;> first | rfl | (exfalso; omega) | contradiction
    rw [e9]; exact ⟨rfl, rfl, RE1 _ _, RG_st hG hIO hKO _⟩
  · skip
    refine pw_iload_n 1 rfl dX9_mark_4 rfl ?_
    refine pw_sipush dX9_mark_5 (by decide) ?_
    refine pw_icmp_gt 24 (by decide) dX9_mark_8 (by omega) (by omega) (fun c8 => ?_) (fun c8 => ?_)
    · skip
      refine pw_aload_n 0 rfl dX9_mark_24 rfl ?_
      refine pw_bipush dX9_mark_25 (by decide) ?_
      refine pw_callV (d' := d - 1) (As := [_]) (ci := 9) dX9_mark_27 ok_X9_refused kw_406 rfl rfl (Of.o (by assumption)) (by omega) rfl (Nat.le_of_ble_eq_true rfl) (p_refused (d - 1) (by omega) n ok _ hP9 _ (by omega)) (Nat.le_refl _) (Or.inl rfl) (fun r ok1 mem1 hq => ?_)
      obtain ⟨rfl, rfl, rfl⟩ := hq
      refine pw_iret dX9_mark_30 rfl rfl ?_
      have e9 : rMark mem f k v = rRef mem (-3) := by
        unfold rMark; (repeat' split) <;> first | rfl | (exfalso; omega) | contradiction
      rw [e9]; exact ⟨rfl, rfl, RE1 _ _, RG_st hG hIO hKO _⟩
    · skip
      refine pw_iload_n 2 rfl dX9_mark_11 rfl ?_
      refine pw_if_lt 24 (by decide) dX9_mark_12 (by omega) (fun c12 => ?_) (fun c12 => ?_)
      · skip
        refine pw_aload_n 0 rfl dX9_mark_24 rfl ?_
        refine pw_bipush dX9_mark_25 (by decide) ?_
        refine pw_callV (d' := d - 1) (As := [_]) (ci := 9) dX9_mark_27 ok_X9_refused kw_406 rfl rfl (Of.o (by assumption)) (by omega) rfl (Nat.le_of_ble_eq_true rfl) (p_refused (d - 1) (by omega) n ok _ hP9 _ (by omega)) (Nat.le_refl _) (Or.inl rfl) (fun r ok1 mem1 hq => ?_)
        obtain ⟨rfl, rfl, rfl⟩ := hq
        refine pw_iret dX9_mark_30 rfl rfl ?_
        have e9 : rMark mem f k v = rRef mem (-3) := by
          unfold rMark; (repeat' split) <;> first | rfl | (exfalso; omega) | contradiction
        rw [e9]; exact ⟨rfl, rfl, RE1 _ _, RG_st hG hIO hKO _⟩
      · skip
        refine pw_iload_n 2 rfl dX9_mark_15 rfl ?_
        refine pw_sipush dX9_mark_16 (by decide) ?_
        refine pw_iload_n 1 rfl dX9_mark_19 rfl ?_
        refine pw_isub dX9_mark_20 ?_
        refine pw_icmp_le 31 (by decide) dX9_mark_21 (by omega) (by omega) (fun c21 => ?_) (fun c21 => ?_)
        · skip
          refine pw_aload_n 0 rfl dX9_mark_31 rfl ?_
          refine pw_aload_n 0 rfl dX9_mark_32 rfl ?_
          refine pw_gR 4 78 dX9_mark_33 cOk9 (by assumption) (by decide) kw_351 (by decide) rfl ?_
          refine pw_iload_n 1 rfl dX9_mark_36 rfl ?_
          refine pw_iload_n 2 rfl dX9_mark_37 rfl ?_
          refine pw_iload_n 3 rfl dX9_mark_38 rfl ?_
          refine pw_callV (d' := d - 1) (As := [_, _, _]) (ci := 4) dX9_mark_39 ok_X4_put kw_956 rfl rfl (Of.o (by assumption)) (by omega) rfl (Nat.le_of_ble_eq_true rfl) (k_put (d - 1) (by omega) n ok mem hM mem hG.2.2.2.2.2.1.1 f k v (by omega) (by omega) (by omega) hv01) (Nat.le_refl _) (Or.inl rfl) (fun r ok1 mem1 hq => ?_)
          obtain ⟨rfl, rfl, hq1, hq2⟩ := hq
          refine pw_callV (d' := d - 1) (As := [_]) (ci := 9) dX9_mark_42 ok_X9_answered kw_423 rfl rfl (Of.o (by assumption)) (by omega) rfl (Nat.le_of_ble_eq_true rfl) (p_answered (d - 1) (by omega) n ok _ hP9 _) (Nat.le_refl _) (Or.inl rfl) (fun r ok1 mem1 hq => ?_)
          obtain ⟨rfl, rfl, rfl⟩ := hq
          refine pw_iret dX9_mark_45 rfl rfl ?_
          have e9 : rMark mem f k v = rSay (fiM mem 119 f k v) (mkG mem f v k.toNat) := by
            unfold rMark; (repeat' split) <;> first | rfl | (exfalso; omega) | contradiction
          rw [e9]
          have hR2 := RI_m hRI (A2 := fiM mem 119 f k v) (fun a _ _ a3 => fiM_a _ _ _ _ a3) (fun j j1 j2 => by
            unfold fiM; split
            · exact hv01
            · exact hRI.2.2.2.2.2.2.2.2 j j1 j2)
          have hfr : FrW 79 mem mem1 := hq1
          refine ⟨rfl, rfl, fun a a1 a2 => by rw [wr_a _ _ _ (by omega)]; exact hfr a (by omega), RG_st ?_ hR2.1 hR2.2.1 0⟩
          have e1 := hfr 1 (by omega)
          have e8 : fiM mem 119 f k v 88 = mem 88 := fiM_a _ _ _ _ (by omega)
          refine RG_plain hG hIO hKO (fun a a1 a2 => fiM_a _ _ _ _ (by omega)) (fun a a1 a2 => fiM_a _ _ _ _ (by omega)) (fun k hk => by rw [e8]) (fun a ha => hfr a (by omega)) (by rw [e1]) (RTy_c hG.2.2.2.1 (by rw [e8]) (fiM_a _ _ _ _ (by omega)) (by rw [e1]) (hfr _ (by omega))) (RAt_c hG.2.2.2.2.1 (by rw [e8]) (by rw [e8]) (by rw [e8]) (by rw [e8]) (by rw [e1]) (by rw [e1]) (by rw [e1]) (by rw [e1])) ⟨hq2, by rw [e8, hfr 78 (by omega)]; exact hG.2.2.2.2.2.1.2⟩ (REx_c hG.2.2.2.2.2.2.1 (by rw [e8]) (fiM_a _ _ _ _ (by omega)) (hfr _ (by omega)) (hfr _ (by omega)))
        · skip
          refine pw_aload_n 0 rfl dX9_mark_24 rfl ?_
          refine pw_bipush dX9_mark_25 (by decide) ?_
          refine pw_callV (d' := d - 1) (As := [_]) (ci := 9) dX9_mark_27 ok_X9_refused kw_406 rfl rfl (Of.o (by assumption)) (by omega) rfl (Nat.le_of_ble_eq_true rfl) (p_refused (d - 1) (by omega) n ok _ hP9 _ (by omega)) (Nat.le_refl _) (Or.inl rfl) (fun r ok1 mem1 hq => ?_)
          obtain ⟨rfl, rfl, rfl⟩ := hq
          refine pw_iret dX9_mark_30 rfl rfl ?_
          have e9 : rMark mem f k v = rRef mem (-3) := by
            unfold rMark; (repeat' split) <;> first | rfl | (exfalso; omega) | contradiction
          rw [e9]; exact ⟨rfl, rfl, RE1 _ _, RG_st hG hIO hKO _⟩
theorem wA_ln {m : pM} {c : Int} (h : cIn m c) : (wA m c).length ≤ 432 := by rw [wA_len]; have := wL_len h; omega
set_option maxHeartbeats 4000000 in
set_option maxRecDepth 100000 in
theorem p_digest (d : Nat) (hd : 3 ≤ d) (n : Nat) (ok : pO) (mem : pM) (hU : ClUp n ok) (hG : RG mem mem n) (hRI : RI mem) (c : Int) (hc : -2147483648 ≤ c ∧ c ≤ 2147483647)  : PM mi_X9_digest d [vr 1, vi c] n ok mem n (fun r ok' mem' => r = some (vl (rDigest mem c)) ∧ ok = ok' ∧ RE mem mem' ∧ RG mem mem' n) := by
  obtain ⟨hP9, hN, ⟨hn4, ho0, ho1, ho2⟩, hCh, hDr, hM, ⟨hW80, hW82, hW84⟩, q86, q87, hSU, hn133⟩ := id hU
  obtain ⟨hN5, hN3⟩ := id hN
  obtain ⟨hM4, hM9⟩ := id hM
  obtain ⟨hW8, hWA, -, -⟩ := id hW80
  have hIO := hRI.1
  have hKO := hRI.2.1
  have ht9 := hRI.2.2.1
  have hq0 := hRI.2.2.2.1
  have hty := hRI.2.2.2.2.1
  have hNR := hG.1
  have hNR1 : mem 2 1 = mem 88 19 := hNR.1
  have hW82a := hW82.1
  have hW84a := hW84.1
  refine PM.of (by decide) (by decide) (Nat.le_refl _) (Nat.le_of_ble_eq_true rfl) ?_
  refine pw_iload_n 1 rfl dX9_digest_0 rfl ?_
  refine pw_callS (d' := d - 1) (As := [_]) dX9_digest_1 ok_X9_isChest kw_403 (by omega) rfl (Nat.le_of_ble_eq_true rfl) (p_isChest (d - 1) (by omega) n ok _ _ (by omega)) (Nat.le_refl _) (Or.inl rfl) (fun r ok1 mem1 hq => ?_)
  obtain ⟨rfl, rfl, rfl⟩ := hq
  refine pw_if_ne 9 (by decide) dX9_digest_4 (by split <;> omega) (fun c4 => ?_) (fun c4 => ?_)
  · skip
    rw [ne_eq, bz_n] at c4
    obtain ⟨b, hbc⟩ : ∃ b : Nat, (b : Int) = 5 + 18 * c := ⟨(5 + 18 * c).toNat, by omega⟩
    have hC : ChUp n ok b := hCh b (by omega)
    have hok : ok 4 (c).toNat = true := by rcases (show c = 0 ∨ c = 1 ∨ c = 2 by omega) with e | e | e <;> (rw [e]; assumption)
    obtain ⟨hS, hV, hJ, hKR⟩ := hG.2.1 c b (by omega) (by omega) hbc
    have hI := hIO c (by omega) (by omega)
    have hOk := hI.ok
    obtain ⟨hR, hD, hSo⟩ := id hS
    obtain ⟨hC0, ⟨hC1, hC2, hC3, hC4, hC5, hC6, hC7⟩, hC8, ⟨hC9, hC10, hC11, hC12, hC13, hC14, hC15⟩, hC16, hC17, hb5, hb59⟩ := id hC
    refine pw_aload_n 0 rfl dX9_digest_9 rfl ?_
    refine pw_gR 6 82 dX9_digest_10 cOk9 (by assumption) (by decide) kw_353 (by decide) rfl ?_
    refine pw_aload_n 0 rfl dX9_digest_13 rfl ?_
    refine pw_gR 1 4 dX9_digest_14 cOk9 (by assumption) (by decide) kw_348 (by decide) rfl ?_
    refine pw_iload_n 1 rfl dX9_digest_17 rfl ?_
    refine pw_aaload (L := 3) dX9_digest_18 (by omega) (by omega) rfl rfl (by decide) (by omega) (by omega) b hbc hok ?_
    refine pw_callV (d' := d - 1) (As := [_]) (ci := 8) dX9_digest_19 ok_X8_write kw_992 rfl rfl (Of.o (by assumption)) (by omega) rfl (Nat.le_of_ble_eq_true rfl) (w_write (d - 1) (by omega) n ok mem hN b hC mem c hI hS hV 82 hW82 hJ) (Nat.le_refl _) (Or.inl rfl) (fun r ok1 mem1 hq => ?_)
    obtain ⟨rfl, rfl, hw, hfr⟩ := hq
    have hwl := wA_ln hI
    refine pw_aload_n 0 rfl dX9_digest_22 rfl ?_
    refine pw_gR 6 82 dX9_digest_23 cOk9 (by assumption) (by decide) kw_353 (by decide) rfl ?_
    refine pw_callV (d' := d - 1) (As := []) (ci := 8) dX9_digest_26 ok_X8_hash kw_1025 rfl rfl (Of.o (by assumption)) (by omega) rfl (Nat.le_of_ble_eq_true rfl) (w_hash (d - 1) (by omega) n ok mem1 82 hW82 _ hw (by omega)) (Nat.le_refl _) (Or.inl rfl) (fun r ok1 mem1 hq => ?_)
    obtain ⟨rfl, rfl, rfl⟩ := hq
    refine pw_lret dX9_digest_29 rfl rfl ?_
    refine ⟨congrArg (fun z => some (vl z)) ?_, rfl, fun a a1 a2 => hfr a (by omega) (by omega), ?_⟩
    · unfold rDigest; rw [if_neg (by omega)]
    refine RG_plain hG hIO hKO (fun a a1 a2 => rfl) (fun a a1 a2 => rfl) (fun k hk => rfl) (fun a ha => hfr a (by omega) (by omega)) (by rw [hfr 1 (by omega) (by omega)]) (RTy_c hG.2.2.2.1 rfl rfl (by rw [hfr 1 (by omega) (by omega)]) (hfr _ (by omega) (by omega))) (RAt_c hG.2.2.2.2.1 rfl rfl rfl rfl (by rw [hfr 1 (by omega) (by omega)]) (by rw [hfr 1 (by omega) (by omega)]) (by rw [hfr 1 (by omega) (by omega)]) (by rw [hfr 1 (by omega) (by omega)])) (RMk_c hG.2.2.2.2.2.1 rfl rfl rfl rfl (hfr _ (by omega) (by omega)) (hfr _ (by omega) (by omega))) (REx_c hG.2.2.2.2.2.2.1 rfl rfl (hfr _ (by omega) (by omega)) (hfr _ (by omega) (by omega)))
  · skip
    rw [bz_0] at c4
    refine pw_lconst (x := 0) dX9_digest_7 (by decide) ?_
    refine pw_lret dX9_digest_8 rfl rfl ?_
    refine ⟨congrArg (fun z => some (vl z)) ?_, rfl, fun a _ _ => rfl, hG⟩
    unfold rDigest; rw [if_pos c4]
set_option maxHeartbeats 4000000 in
set_option maxRecDepth 100000 in
theorem p_alike (d : Nat) (hd : 3 ≤ d) (n : Nat) (ok : pO) (mem : pM) (hU : ClUp n ok) (hG : RG mem mem n) (hRI : RI mem) (a b : Int) (ha : -2147483648 ≤ a ∧ a ≤ 2147483647) (hb : -2147483648 ≤ b ∧ b ≤ 2147483647)  : PM mi_X9_alike d [vr 1, vi a, vi b] n ok mem n (fun r ok' mem' => r = some (vi (rAlike mem a b)) ∧ ok = ok' ∧ RE mem mem' ∧ RG mem mem' n) := by
  obtain ⟨hP9, hN, ⟨hn4, ho0, ho1, ho2⟩, hCh, hDr, hM, ⟨hW80, hW82, hW84⟩, q86, q87, hSU, hn133⟩ := id hU
  obtain ⟨hN5, hN3⟩ := id hN
  obtain ⟨hM4, hM9⟩ := id hM
  obtain ⟨hW8, hWA, -, -⟩ := id hW80
  have hIO := hRI.1
  have hKO := hRI.2.1
  have ht9 := hRI.2.2.1
  have hq0 := hRI.2.2.2.1
  have hty := hRI.2.2.2.2.1
  have hNR := hG.1
  have hNR1 : mem 2 1 = mem 88 19 := hNR.1
  have hW82a := hW82.1
  have hW84a := hW84.1
  refine PM.of (by decide) (by decide) (Nat.le_refl _) (Nat.le_of_ble_eq_true rfl) ?_
  refine pw_iload_n 1 rfl dX9_alike_0 rfl ?_
  refine pw_callS (d' := d - 1) (As := [_]) dX9_alike_1 ok_X9_isChest kw_403 (by omega) rfl (Nat.le_of_ble_eq_true rfl) (p_isChest (d - 1) (by omega) n ok _ _ (by omega)) (Nat.le_refl _) (Or.inl rfl) (fun r ok1 mem1 hq => ?_)
  obtain ⟨rfl, rfl, rfl⟩ := hq
  refine pw_if_eq 14 (by decide) dX9_alike_4 (by split <;> omega) (fun c4 => ?_) (fun c4 => ?_)
  · skip
    rw [bz_0] at c4
    refine pw_bipush dX9_alike_14 (by decide) ?_
    refine pw_iret dX9_alike_16 rfl rfl ?_
    refine ⟨congrArg (fun z => some (vi z)) ?_, rfl, fun a _ _ => rfl, hG⟩
    unfold rAlike; (repeat' split) <;> first | rfl | (exfalso; omega) | contradiction
  · skip
    rw [bz_n] at c4
    refine pw_iload_n 2 rfl dX9_alike_7 rfl ?_
    refine pw_callS (d' := d - 1) (As := [_]) dX9_alike_8 ok_X9_isChest kw_403 (by omega) rfl (Nat.le_of_ble_eq_true rfl) (p_isChest (d - 1) (by omega) n ok _ _ (by omega)) (Nat.le_refl _) (Or.inl rfl) (fun r ok1 mem1 hq => ?_)
    obtain ⟨rfl, rfl, rfl⟩ := hq
    refine pw_if_ne 17 (by decide) dX9_alike_11 (by split <;> omega) (fun c11 => ?_) (fun c11 => ?_)
    · skip
      rw [ne_eq, bz_n] at c11
      obtain ⟨b1, hbc1⟩ : ∃ b1 : Nat, (b1 : Int) = 5 + 18 * a := ⟨(5 + 18 * a).toNat, by omega⟩
      have hC1 : ChUp n ok b1 := hCh b1 (by omega)
      have hok1 : ok 4 (a).toNat = true := by rcases (show a = 0 ∨ a = 1 ∨ a = 2 by omega) with e | e | e <;> (rw [e]; assumption)
      obtain ⟨h1S, hV1, hJ1, hKR1⟩ := hG.2.1 a b1 (by omega) (by omega) hbc1
      have hI1 := hIO a (by omega) (by omega)
      have hOk1 := hI1.ok
      obtain ⟨hR1, hD1, hSo1⟩ := id h1S
      obtain ⟨hC01, ⟨hC11, hC21, hC31, hC41, hC51, hC61, hC71⟩, hC81, ⟨hC91, hC101, hC111, hC121, hC131, hC141, hC151⟩, hC161, hC171, hb51, hb591⟩ := id hC1
      obtain ⟨b2, hbc2⟩ : ∃ b2 : Nat, (b2 : Int) = 5 + 18 * b := ⟨(5 + 18 * b).toNat, by omega⟩
      have hC2 : ChUp n ok b2 := hCh b2 (by omega)
      have hok2 : ok 4 (b).toNat = true := by rcases (show b = 0 ∨ b = 1 ∨ b = 2 by omega) with e | e | e <;> (rw [e]; assumption)
      obtain ⟨h2S, hV2, hJ2, hKR2⟩ := hG.2.1 b b2 (by omega) (by omega) hbc2
      have hI2 := hIO b (by omega) (by omega)
      have hOk2 := hI2.ok
      obtain ⟨hR2, hD2, hSo2⟩ := id h2S
      obtain ⟨hC02, ⟨hC12, hC22, hC32, hC42, hC52, hC62, hC72⟩, hC82, ⟨hC92, hC102, hC112, hC122, hC132, hC142, hC152⟩, hC162, hC172, hb52, hb592⟩ := id hC2
      refine pw_aload_n 0 rfl dX9_alike_17 rfl ?_
      refine pw_gR 6 82 dX9_alike_18 cOk9 (by assumption) (by decide) kw_353 (by decide) rfl ?_
      refine pw_aload_n 0 rfl dX9_alike_21 rfl ?_
      refine pw_gR 1 4 dX9_alike_22 cOk9 (by assumption) (by decide) kw_348 (by decide) rfl ?_
      refine pw_iload_n 1 rfl dX9_alike_25 rfl ?_
      refine pw_aaload (L := 3) dX9_alike_26 (by omega) (by omega) rfl rfl (by decide) (by omega) (by omega) b1 hbc1 hok1 ?_
      refine pw_callV (d' := d - 1) (As := [_]) (ci := 8) dX9_alike_27 ok_X8_write kw_992 rfl rfl (Of.o (by assumption)) (by omega) rfl (Nat.le_of_ble_eq_true rfl) (w_write (d - 1) (by omega) n ok mem hN b1 hC1 mem a hI1 h1S hV1 82 hW82 hJ1) (Nat.le_refl _) (Or.inl rfl) (fun r ok1 mem1 hq => ?_)
      obtain ⟨rfl, rfl, hw, hfr⟩ := hq
      have hwl := wA_ln hI1
      have hwl2 := wA_ln hI2
      refine pw_aload_n 0 rfl dX9_alike_30 rfl ?_
      refine pw_gR 7 84 dX9_alike_31 cOk9 (by assumption) (by decide) kw_354 (by decide) rfl ?_
      refine pw_aload_n 0 rfl dX9_alike_34 rfl ?_
      refine pw_gR 1 4 dX9_alike_35 cOk9 (by assumption) (by decide) kw_348 (by decide) rfl ?_
      refine pw_iload_n 2 rfl dX9_alike_38 rfl ?_
      refine pw_aaload (L := 3) dX9_alike_39 (by omega) (by omega) rfl rfl (by decide) (by omega) (by omega) b2 hbc2 hok2 ?_
      refine pw_callV (d' := d - 1) (As := [_]) (ci := 8) dX9_alike_40 ok_X8_write kw_992 rfl rfl (Of.o (by assumption)) (by omega) rfl (Nat.le_of_ble_eq_true rfl) (w_write (d - 1) (by omega) n ok mem1 hN b2 hC2 mem b hI2 (h2S.m (fun a _ _ _ _ => hfr a (by omega) (by omega))) (hV2.m (hfr _ (by omega) (by omega))) 84 hW84 (by rw [hfr b2 (by omega) (by omega)]; exact hJ2)) (Nat.le_refl _) (Or.inl rfl) (fun r ok1 mem2 hq => ?_)
      obtain ⟨rfl, rfl, hw2, hfr2⟩ := hq
      have hw1 : WS mem2 82 (wA mem a) := by unfold WS LW; rw [hfr2 82 (by omega) (by omega), hfr2 83 (by omega) (by omega)]; exact hw
      refine pw_aload_n 0 rfl dX9_alike_43 rfl ?_
      refine pw_gR 6 82 dX9_alike_44 cOk9 (by assumption) (by decide) kw_353 (by decide) rfl ?_
      refine pw_aload_n 0 rfl dX9_alike_47 rfl ?_
      refine pw_gR 7 84 dX9_alike_48 cOk9 (by assumption) (by decide) kw_354 (by decide) rfl ?_
      refine pw_callV (d' := d - 1) (As := [_]) (ci := 8) dX9_alike_51 ok_X8_isLike kw_1009 rfl rfl (Of.o (by assumption)) (by omega) rfl (Nat.le_of_ble_eq_true rfl) (w_isLike (d - 1) (by omega) n ok mem2 82 hW82 84 hW84 _ _ hw1 hw2 (by omega) (by omega)) (Nat.le_refl _) (Or.inl rfl) (fun r ok1 mem1 hq => ?_)
      obtain ⟨rfl, rfl, rfl⟩ := hq
      refine pw_if_eq 61 (by decide) dX9_alike_54 (by split <;> omega) (fun c54 => ?_) (fun c54 => ?_)
      · skip
        rw [bz_0] at c54
        refine pw_iconst dX9_alike_61 ?_
        refine pw_iret dX9_alike_62 rfl rfl ?_
        have hff : ∀ x, x < 82 ∨ 85 < x → mem2 x = mem x := fun x hx => (hfr2 x (by omega) (by omega)).trans (hfr x (by omega) (by omega))
        refine ⟨congrArg (fun z => some (vi z)) ?_, rfl, fun a a1 a2 => hff a (by omega), ?_⟩
        · unfold rAlike; rw [if_neg (by omega)]
          first | rw [if_pos c54] | rw [if_neg c54]
        refine RG_plain hG hIO hKO (fun a a1 a2 => rfl) (fun a a1 a2 => rfl) (fun k hk => rfl) (fun a ha => hff a (by omega)) (by rw [hff 1 (by omega)]) (RTy_c hG.2.2.2.1 rfl rfl (by rw [hff 1 (by omega)]) (hff _ (by omega))) (RAt_c hG.2.2.2.2.1 rfl rfl rfl rfl (by rw [hff 1 (by omega)]) (by rw [hff 1 (by omega)]) (by rw [hff 1 (by omega)]) (by rw [hff 1 (by omega)])) (RMk_c hG.2.2.2.2.2.1 rfl rfl rfl rfl (hff _ (by omega)) (hff _ (by omega))) (REx_c hG.2.2.2.2.2.2.1 rfl rfl (hff _ (by omega)) (hff _ (by omega)))
      · skip
        rw [bz_n] at c54
        refine pw_iconst dX9_alike_57 ?_
        refine pw_goto 62 (by decide) dX9_alike_58 ?_
        refine pw_iret dX9_alike_62 rfl rfl ?_
        have hff : ∀ x, x < 82 ∨ 85 < x → mem2 x = mem x := fun x hx => (hfr2 x (by omega) (by omega)).trans (hfr x (by omega) (by omega))
        refine ⟨congrArg (fun z => some (vi z)) ?_, rfl, fun a a1 a2 => hff a (by omega), ?_⟩
        · unfold rAlike; rw [if_neg (by omega)]
          first | rw [if_pos c54] | rw [if_neg c54]
        refine RG_plain hG hIO hKO (fun a a1 a2 => rfl) (fun a a1 a2 => rfl) (fun k hk => rfl) (fun a ha => hff a (by omega)) (by rw [hff 1 (by omega)]) (RTy_c hG.2.2.2.1 rfl rfl (by rw [hff 1 (by omega)]) (hff _ (by omega))) (RAt_c hG.2.2.2.2.1 rfl rfl rfl rfl (by rw [hff 1 (by omega)]) (by rw [hff 1 (by omega)]) (by rw [hff 1 (by omega)]) (by rw [hff 1 (by omega)])) (RMk_c hG.2.2.2.2.2.1 rfl rfl rfl rfl (hff _ (by omega)) (hff _ (by omega))) (REx_c hG.2.2.2.2.2.2.1 rfl rfl (hff _ (by omega)) (hff _ (by omega)))
    · skip
      rw [bz_0] at c11
      refine pw_bipush dX9_alike_14 (by decide) ?_
      refine pw_iret dX9_alike_16 rfl rfl ?_
      refine ⟨congrArg (fun z => some (vi z)) ?_, rfl, fun a _ _ => rfl, hG⟩
      unfold rAlike; (repeat' split) <;> first | rfl | (exfalso; omega) | contradiction
set_option maxHeartbeats 4000000 in
set_option maxRecDepth 100000 in
theorem p_export (d : Nat) (hd : 3 ≤ d) (n : Nat) (ok : pO) (mem : pM) (hU : ClUp n ok) (hG : RG mem mem n) (hRI : RI mem) (c : Int) (hc : -2147483648 ≤ c ∧ c ≤ 2147483647)  : PM mi_X9_export d [vr 1, vi c] n ok mem n (fun r ok' mem' => ok = ok' ∧ RE mem mem' ∧ ((¬ (0 ≤ c ∧ c ≤ 2) ∧ r = some (vi (-2)) ∧ RG mem mem' n) ∨ ((0 ≤ c ∧ c ≤ 2) ∧ r = some (vi ((wA mem c).length : Int)) ∧ ∀ A2, EXM mem A2 c → RG A2 mem' n))) := by
  obtain ⟨hP9, hN, ⟨hn4, ho0, ho1, ho2⟩, hCh, hDr, hM, ⟨hW80, hW82, hW84⟩, q86, q87, hSU, hn133⟩ := id hU
  obtain ⟨hN5, hN3⟩ := id hN
  obtain ⟨hM4, hM9⟩ := id hM
  obtain ⟨hW8, hWA, -, -⟩ := id hW80
  have hIO := hRI.1
  have hKO := hRI.2.1
  have ht9 := hRI.2.2.1
  have hq0 := hRI.2.2.2.1
  have hty := hRI.2.2.2.2.1
  have hNR := hG.1
  have hNR1 : mem 2 1 = mem 88 19 := hNR.1
  refine PM.of (by decide) (by decide) (Nat.le_refl _) (Nat.le_of_ble_eq_true rfl) ?_
  refine pw_iload_n 1 rfl dX9_export_0 rfl ?_
  refine pw_callS (d' := d - 1) (As := [_]) dX9_export_1 ok_X9_isChest kw_403 (by omega) rfl (Nat.le_of_ble_eq_true rfl) (p_isChest (d - 1) (by omega) n ok _ _ (by omega)) (Nat.le_refl _) (Or.inl rfl) (fun r ok1 mem1 hq => ?_)
  obtain ⟨rfl, rfl, rfl⟩ := hq
  refine pw_if_ne 10 (by decide) dX9_export_4 (by split <;> omega) (fun c4 => ?_) (fun c4 => ?_)
  · skip
    rw [ne_eq, bz_n] at c4
    obtain ⟨b, hbc⟩ : ∃ b : Nat, (b : Int) = 5 + 18 * c := ⟨(5 + 18 * c).toNat, by omega⟩
    have hC : ChUp n ok b := hCh b (by omega)
    have hok : ok 4 (c).toNat = true := by rcases (show c = 0 ∨ c = 1 ∨ c = 2 by omega) with e | e | e <;> (rw [e]; assumption)
    obtain ⟨hS, hV, hJ, hKR⟩ := hG.2.1 c b (by omega) (by omega) hbc
    have hI := hIO c (by omega) (by omega)
    have hOk := hI.ok
    obtain ⟨hR, hD, hSo⟩ := id hS
    obtain ⟨hC0, ⟨hC1, hC2, hC3, hC4, hC5, hC6, hC7⟩, hC8, ⟨hC9, hC10, hC11, hC12, hC13, hC14, hC15⟩, hC16, hC17, hb5, hb59⟩ := id hC
    refine pw_aload_n 0 rfl dX9_export_10 rfl ?_
    refine pw_gR 5 80 dX9_export_11 cOk9 (by assumption) (by decide) kw_352 (by decide) rfl ?_
    refine pw_aload_n 0 rfl dX9_export_14 rfl ?_
    refine pw_gR 1 4 dX9_export_15 cOk9 (by assumption) (by decide) kw_348 (by decide) rfl ?_
    refine pw_iload_n 1 rfl dX9_export_18 rfl ?_
    refine pw_aaload (L := 3) dX9_export_19 (by omega) (by omega) rfl rfl (by decide) (by omega) (by omega) b hbc hok ?_
    refine pw_callV (d' := d - 1) (As := [_]) (ci := 8) dX9_export_20 ok_X8_write kw_992 rfl rfl (Of.o (by assumption)) (by omega) rfl (Nat.le_of_ble_eq_true rfl) (w_write (d - 1) (by omega) n ok mem hN b hC mem c hI hS hV 80 hW80 hJ) (Nat.le_refl _) (Or.inl rfl) (fun r ok1 mem1 hq => ?_)
    obtain ⟨rfl, rfl, hw, hfr⟩ := hq
    have hwl := wA_ln hI
    refine pw_aload_n 0 rfl dX9_export_23 rfl ?_
    refine pw_gR 5 80 dX9_export_24 cOk9 (by assumption) (by decide) kw_352 (by decide) rfl ?_
    refine pw_gI 1 1 rfl dX9_export_27 cOk8 (by assumption) (by decide) kw_341 (by decide) (fun r27 => ?_)
    rw [hw.2] at r27 ⊢
    refine pw_iret dX9_export_30 rfl rfl ?_
    refine ⟨rfl, fun a a1 a2 => hfr a (by omega) (by omega), Or.inr ⟨by omega, rfl, fun A2 hx => ?_⟩⟩
    have e1 := hfr 1 (by omega) (by omega)
    have kA := hx.2.1
    exact RG_plain hG hIO hKO (fun a a1 a2 => hx.1 a (by omega) (by omega) (by omega)) (fun a a1 a2 => hx.1 a (by omega) (by omega) (by omega)) (fun k hk => kA k (by omega)) (fun a ha => hfr a (by omega) (by omega)) (by rw [e1]) (RTy_c hG.2.2.2.1 (kA _ (by omega)) (hx.1 _ (by omega) (by omega) (by omega)) (by rw [e1]) (hfr _ (by omega) (by omega))) (RAt_c hG.2.2.2.2.1 (kA _ (by omega)) (kA _ (by omega)) (kA _ (by omega)) (kA _ (by omega)) (by rw [e1]) (by rw [e1]) (by rw [e1]) (by rw [e1])) (RMk_c hG.2.2.2.2.2.1 (kA _ (by omega)) (kA _ (by omega)) (kA _ (by omega)) (hx.1 _ (by omega) (by omega) (by omega)) (hfr _ (by omega) (by omega)) (hfr _ (by omega) (by omega))) ⟨_, hw, hx.2.2.2, hx.2.2.1, by omega⟩
  · skip
    rw [bz_0] at c4
    refine pw_bipush dX9_export_7 (by decide) ?_
    refine pw_iret dX9_export_9 rfl rfl ?_
    exact ⟨rfl, fun a _ _ => rfl, Or.inl ⟨c4, rfl, hG⟩⟩
