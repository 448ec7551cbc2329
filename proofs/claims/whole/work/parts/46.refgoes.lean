/-! ===== begin, goesOn ===== -/
theorem vM_q {m m1 : pM} {c : Int} {v : Int → Int} {ev : pEv} {z : Int} (hq : m 88 3 ≠ 0) (h : vMem m m1 c v ev z) : vMem m m1 c v [] z := by
  refine ⟨fun a ha => ?_, h.2⟩
  rw [h.1 a ha, rEv_q hq]; rfl
theorem vM_w0 {m m1 : pM} {c : Int} {v : Int → Int} {z : Int} (h : vMem m m1 c v [] z) {a : Nat} {k : Int} (y : Int) (ha : a ≠ 92) (hk : ¬ (a = 88 ∧ k = 23)) : vMem (wr m a k y) (wr m1 a k y) c v [] z := by
  refine ⟨fun b hb => ?_, fun s q1 q2 => by rw [wr_a _ _ _ (Ne.symm ha)]; exact h.2.1 s q1 q2, fun j hj => by rw [wr_a _ _ _ (Ne.symm ha), wr_a _ _ _ (Ne.symm ha)]; exact h.2.2 j hj⟩
  show wr m1 a k y b = wr (wr m a k y) 88 23 z b
  rw [wr_c2 _ _ _ (fun q => hk ⟨q.1.symm, q.2.symm⟩)]
  have e := h.1 b hb
  funext j
  show (if b = a ∧ j = k then y else m1 b j) = (if b = a ∧ j = k then y else _)
  rw [e]; rfl
theorem vM_cm {b m1 : pM} {c : Int} {v : Int → Int} {z : Int} (h : vMem b m1 c v [] z) (u lay fr by' op : Int) : vMem (cmB b u lay fr by' op) (cmB m1 u lay fr by' op) c v [] z := by
  have e1 : m1 109 = b 109 := h.a (by omega) (by omega) (by omega)
  have e2 : m1 88 34 = b 88 34 := h.f (by omega) (by omega) (by omega) (by omega)
  have e3 : m1 88 36 = b 88 36 := h.f (by omega) (by omega) (by omega) (by omega)
  unfold cmB
  rw [e1]
  split
  · exact h
  · unfold cmN
    rw [e2, e3]
    exact vM_w0 (vM_w0 (vM_w0 (vM_w0 (vM_w0 (vM_w0 (vM_w0 (vM_w0 h _ (by omega) (by omega)) _ (by omega) (by omega)) _ (by omega) (by omega)) _ (by omega) (by omega)) _ (by omega) (by omega)) _ (by omega) (by omega)) _ (by omega) (by omega)) _ (by omega) (by omega)
theorem vM_end {b m1 : pM} {c : Int} {v : Int → Int} {z : Int} (h : vMem b m1 c v [] z) (hv : ∀ s : Int, 0 ≤ s → s ≤ 15 → v s = b 92 (16 * c + s)) : m1 = wr b 88 23 z := by
  funext a
  by_cases e : a = 92
  · subst e
    rw [wr_a _ _ _ (by omega)]
    funext j
    by_cases q : 16 * c ≤ j ∧ j < 16 * c + 16
    · have h1 := h.2.1 (j - 16 * c) (by omega) (by omega)
      rw [hv _ (by omega) (by omega), show 16 * c + (j - 16 * c) = j by omega] at h1
      exact h1
    · exact h.2.2 j (by omega)
  · exact h.1 a e
def bgQ (m : pM) (c : Int) : pM := wr (fiM (wr (wr (wr (wr (wr (wr (wr m 88 31 1) 88 32 0) 88 33 c) 88 34 0) 88 35 0) 88 36 (-1)) 88 44 0) 109 0 1024 (-1)) 88 3 1
def bgB (m : pM) (c : Int) : pM := wr (cmB (bgQ m c) (aNum m c 16) 0 (-1) (-1) (oRes m c (aAt m c))) 88 3 0
theorem bgQ_a (m : pM) (c : Int) (a : Nat) (h1 : a ≠ 88) (h2 : a ≠ 109) : bgQ m c a = m a := by
  unfold bgQ; rw [wr_a _ _ _ h1, fiM_a _ _ _ _ h2]; simp (disch := omega) only [wr_a]
theorem bgQ_88 (m : pM) (c : Int) : bgQ m c 88 31 = 1 ∧ bgQ m c 88 32 = 0 ∧ bgQ m c 88 33 = c ∧ bgQ m c 88 34 = 0 ∧ bgQ m c 88 35 = 0 ∧ bgQ m c 88 36 = -1 ∧ bgQ m c 88 44 = 0 ∧ bgQ m c 88 3 = 1 ∧ ∀ k, k ≠ 3 → k ≠ 31 → k ≠ 32 → k ≠ 33 → k ≠ 34 → k ≠ 35 → k ≠ 36 → k ≠ 44 → bgQ m c 88 k = m 88 k := by
  unfold bgQ
  refine ⟨?_, ?_, ?_, ?_, ?_, ?_, ?_, ?_, fun k h1 h2 h3 h4 h5 h6 h7 h8 => ?_⟩
  · rw [wr_k _ _ _ _ (by omega), fiM_a _ _ _ _ (by omega)]; simp (disch := omega) only [wr_k, wr_s]
  · rw [wr_k _ _ _ _ (by omega), fiM_a _ _ _ _ (by omega)]; simp (disch := omega) only [wr_k, wr_s]
  · rw [wr_k _ _ _ _ (by omega), fiM_a _ _ _ _ (by omega)]; simp (disch := omega) only [wr_k, wr_s]
  · rw [wr_k _ _ _ _ (by omega), fiM_a _ _ _ _ (by omega)]; simp (disch := omega) only [wr_k, wr_s]
  · rw [wr_k _ _ _ _ (by omega), fiM_a _ _ _ _ (by omega)]; simp (disch := omega) only [wr_k, wr_s]
  · rw [wr_k _ _ _ _ (by omega), fiM_a _ _ _ _ (by omega)]; simp (disch := omega) only [wr_k, wr_s]
  · rw [wr_k _ _ _ _ (by omega), fiM_a _ _ _ _ (by omega)]; simp (disch := omega) only [wr_k, wr_s]
  · rw [wr_s]
  · rw [wr_k _ _ _ _ h1, fiM_a _ _ _ _ (by omega), wr_k _ _ _ _ h8, wr_k _ _ _ _ h7, wr_k _ _ _ _ h6, wr_k _ _ _ _ h5, wr_k _ _ _ _ h4, wr_k _ _ _ _ h3, wr_k _ _ _ _ h2]
theorem bgQ_s (m : pM) (c : Int) : sSame m (bgQ m c) := fun a h1 h2 _ => bgQ_a m c a (by omega) (by omega)
set_option maxHeartbeats 4000000 in
set_option maxRecDepth 100000 in
theorem r_begin (d : Nat) (hd : 6 ≤ d) (n : Nat) (ok : pO) (mem : pM) (hU : RefUp n ok) (c : Int) (hc : 0 ≤ c ∧ c ≤ 2) (hs : cOkR mem c) (ht : 0 ≤ mem 88 19 ∧ mem 88 19 ≤ 1000000) : PM mi_X10_begin d [vr 88, vi c] n ok mem n (fun r ok' mem' => ∃ z : Int, r = none ∧ ok = ok' ∧ wr (bgB mem c) 88 23 z = mem') := by
  obtain ⟨hO, ⟨a89, a90, a91, a92, a93, a94, a95, a96, a97, a98⟩, ⟨a99, a100, a101, a102, a103, a104, a105, a106, a107⟩, ⟨a108, a109, a110, a111, a112, a113, a114, a115, a116, a117, a118, a119⟩, a120, a121, a122⟩ := id hU
  refine PM.of (by decide) (by decide) (Nat.le_refl _) (Nat.le_of_ble_eq_true rfl) ?_
  refine pw_aload_n 0 rfl dX10_begin_0 rfl ?_
  refine pw_iconst dX10_begin_1 ?_
  refine pw_pZ 31 31 rfl dX10_begin_2 cOk10 (by assumption) (by decide) kw_1096 rfl rfl (by decide) (by omega) ?_
  refine pw_aload_n 0 rfl dX10_begin_5 rfl ?_
  refine pw_iconst dX10_begin_6 ?_
  refine pw_pZ 32 32 rfl dX10_begin_7 cOk10 (by assumption) (by decide) kw_1097 rfl rfl (by decide) (by omega) ?_
  refine pw_aload_n 0 rfl dX10_begin_10 rfl ?_
  refine pw_iload_n 1 rfl dX10_begin_11 rfl ?_
  refine pw_pI 33 33 rfl dX10_begin_12 cOk10 (by assumption) (by decide) kw_1098 rfl rfl (by decide) (by omega) ?_
  refine pw_aload_n 0 rfl dX10_begin_15 rfl ?_
  refine pw_iconst dX10_begin_16 ?_
  refine pw_pI 34 34 rfl dX10_begin_17 cOk10 (by assumption) (by decide) kw_1099 rfl rfl (by decide) (by omega) ?_
  refine pw_aload_n 0 rfl dX10_begin_20 rfl ?_
  refine pw_iconst dX10_begin_21 ?_
  refine pw_pI 35 35 rfl dX10_begin_22 cOk10 (by assumption) (by decide) kw_1100 rfl rfl (by decide) (by omega) ?_
  refine pw_aload_n 0 rfl dX10_begin_25 rfl ?_
  refine pw_iconst dX10_begin_26 ?_
  refine pw_pI 36 36 rfl dX10_begin_27 cOk10 (by assumption) (by decide) kw_1101 rfl rfl (by decide) (by omega) ?_
  refine pw_aload_n 0 rfl dX10_begin_30 rfl ?_
  refine pw_iconst dX10_begin_31 ?_
  refine pw_pZ 44 44 rfl dX10_begin_32 cOk10 (by assumption) (by decide) kw_1109 rfl rfl (by decide) (by omega) ?_
  refine pw_iconst dX10_begin_35 ?_
  refine pw_istore_n 2 rfl dX10_begin_36 (by decide) ?_
  have lp37 : ∀ (kz : Nat) (i : Nat) (m1 : pM), 1024 - (i : Int) < (kz : Int) → (i ≤ 1024) → (fiM (wr (wr (wr (wr (wr (wr (wr mem 88 31 1) 88 32 0) 88 33 c) 88 34 0) 88 35 0) 88 36 (-1)) 88 44 0) 109 0 i (-1) = m1) → PW mi_X10_begin d n n (fun r ok' mem' => ∃ z : Int, r = none ∧ ok = ok' ∧ wr (bgB mem c) 88 23 z = mem') 37 [(0, vr 88), (1, vi c), (2, vi (i : Int))] [] n ok m1 := by
    intro kz
    induction kz with
    | zero =>
      intro i m1 hk h1 h2
      exact absurd hk (by omega)
    | succ kz ih =>
      intro i m1 hk h1 h2
      refine pw_iload_n 2 rfl dX10_begin_37 rfl ?_
      refine pw_sipush dX10_begin_38 (by decide) ?_
      refine pw_icmp_ge 57 (by decide) dX10_begin_41 (by omega) (by omega) (fun c41 => ?_) (fun c41 => ?_)
      · skip
        have e4 : i = 1024 := by omega
        subst e4
        refine pw_aload_n 0 rfl dX10_begin_57 rfl ?_
        refine pw_iconst dX10_begin_58 ?_
        refine pw_pZ 3 3 rfl dX10_begin_59 cOk10 (by assumption) (by decide) kw_1068 rfl rfl (by decide) (by omega) ?_
        have eB : wr m1 88 3 1 = bgQ mem c := by rw [← h2]; rfl
        rw [eB]
        have e92 : aAt (bgQ mem c) c = aAt mem c := by funext s; show bgQ mem c 92 _ = mem 92 _; rw [bgQ_a _ _ _ (by omega) (by omega)]
        have sQ := bgQ_s mem c
        have f8 := bgQ_88 mem c
        have q19 := f8.2.2.2.2.2.2.2.2 19 (by omega) (by omega) (by omega) (by omega) (by omega) (by omega) (by omega) (by omega)
        have hnr := num_ran hs
        refine pw_aload_n 0 rfl dX10_begin_62 rfl ?_
        refine pw_aload_n 0 rfl dX10_begin_63 rfl ?_
        refine pw_iload_n 1 rfl dX10_begin_64 rfl ?_
        refine pw_callV (d' := d - 1) (As := [_]) (ci := 10) dX10_begin_65 ok_X10_numberOf kw_1362 rfl rfl (Of.o (by assumption)) (by omega) rfl (Nat.le_of_ble_eq_true rfl) (r_numberOf (d - 1) (by omega) n ok (bgQ mem c) hU c (by omega)) (Nat.le_refl _) (Or.inl rfl) (fun r ok1 mem1 hq => ?_)
        obtain ⟨rfl, rfl, rfl⟩ := hq
        have en : aNum (bgQ mem c) c 16 = aNum mem c 16 := by rw [aNum_V sQ c (v := aAt mem c) (fun s _ _ => by rw [e92]) 16 (by omega), aNum_v mem c 16 (by omega)]
        rw [en]
        refine pw_iconst dX10_begin_68 ?_
        refine pw_iconst dX10_begin_69 ?_
        refine pw_iconst dX10_begin_70 ?_
        refine pw_callV (d' := d - 1) (As := [_, _, _, _]) (ci := 10) dX10_begin_71 ok_X10_come kw_1366 rfl rfl (Of.o (by assumption)) (by omega) rfl (Nat.le_of_ble_eq_true rfl) (r_come (d - 1) (by omega) n ok (bgQ mem c) hU (aNum mem c 16) 0 (-1) (-1) (by omega) (by omega) (by omega) (by omega) (by omega) (by omega) (by rw [f8.2.2.1]; exact sOk_s sQ hs.1) (by rw [f8.2.2.1, e92]; exact pOkv_s sQ hs.2.1) (by rw [q19]; omega) (by omega) (by omega)) (Nat.le_refl _) (Or.inl rfl) (fun r ok1 m2 hq => ?_)
        obtain ⟨z, rfl, rfl, em2⟩ := hq
        rw [f8.2.2.1, e92, oRes_s sQ] at em2
        subst em2
        refine pw_istore_n 2 rfl dX10_begin_74 (by decide) ?_
        refine pw_aload_n 0 rfl dX10_begin_75 rfl ?_
        refine pw_iconst dX10_begin_76 ?_
        refine pw_pZ 3 3 rfl dX10_begin_77 cOk10 (by assumption) (by decide) kw_1068 rfl rfl (by decide) (by omega) ?_
        refine pw_vret dX10_begin_80 rfl rfl ?_
        refine ⟨z, rfl, rfl, ?_⟩
        unfold bgB; exact wr_c2 _ _ _ (by omega)
      · skip
        refine pw_aload_n 0 rfl dX10_begin_44 rfl ?_
        refine pw_gR 38 109 dX10_begin_45 cOk10 (by assumption) (by decide) kw_1103 (by decide) rfl ?_
        refine pw_iload_n 2 rfl dX10_begin_48 rfl ?_
        refine pw_iconst dX10_begin_49 ?_
        refine pw_iastore dX10_begin_50 (by assumption) (by omega) (by omega) (by omega) ?_
        refine pw_iinc dX10_begin_51 rfl (by decide) ?_
        refine pw_goto 37 (by decide) dX10_begin_54 ?_
        exact pw_locs _ rfl (ih (i + 1) _ (by omega) (by omega) (by rw [← h2]; have e5 := (fiM_s (wr (wr (wr (wr (wr (wr (wr mem 88 31 1) 88 32 0) 88 33 c) 88 34 0) 88 35 0) 88 36 (-1)) 88 44 0) 109 0 i (-1) (by omega)).symm; rw [Int.zero_add] at e5; exact e5))
  exact pw_locs _ rfl (lp37 1025 0 _ (by omega) (by omega) (fiM_0 _ _ _ _))
theorem GI_c {m : pM} {c : Int} {b b' : pM} (h : GI m c b) (ha : ∀ a, 108 ≤ a → a ≤ 114 → b' a = b a) (h34 : b' 88 34 = b 88 34) (h35 : b' 88 35 = b 88 35) (h36 : b' 88 36 = b 88 36) : GI m c b' := by
  unfold GI GJ SIq SIr FO LD
  rw [ha 108 (by omega) (by omega), ha 109 (by omega) (by omega), ha 110 (by omega) (by omega), ha 111 (by omega) (by omega), ha 112 (by omega) (by omega), ha 114 (by omega) (by omega), h34, h35, h36]
  exact h
theorem GI_m {m m1 : pM} {c : Int} {b : pM} (hs : sSame m m1) (h : GI m c b) : GI m1 c b := by
  unfold GI GJ LD
  rw [pW_s hs]
  have e1 : ∀ x, opN m1 c x = opN m c x := fun x => opN_s hs c x
  have e2 : ∀ x y, mvN m1 c x y = mvN m c x y := fun x y => mvN_s hs c x y
  simp only [e1, e2]
  exact h
/-- what goesOn leaves -/
noncomputable def goR (m : pM) (c k : Int) : pM := wr (wr (goB m c k.toNat (wr m 88 3 1)) 88 3 0) 88 44 0
set_option maxHeartbeats 4000000 in
set_option maxRecDepth 100000 in
theorem r_goesOn (d : Nat) (hd : 6 ≤ d) (n : Nat) (ok : pO) (mem : pM) (hU : RefUp n ok) (c k : Int) (hc : 0 ≤ c ∧ c ≤ 2) (hk0 : 0 ≤ k ∧ k ≤ 1024) (hc33 : mem 88 33 = c) (hs : cOkR mem c) (hgi : GI mem c mem) (ht : 0 ≤ mem 88 19 ∧ mem 88 19 ≤ 1000000) : PM mi_X10_goesOn d [vr 88, vi k] n ok mem n (fun r ok' mem' => ∃ z : Int, r = none ∧ ok = ok' ∧ wr (goR mem c k) 88 23 z = mem') := by
  obtain ⟨hO, ⟨a89, a90, a91, a92, a93, a94, a95, a96, a97, a98⟩, ⟨a99, a100, a101, a102, a103, a104, a105, a106, a107⟩, ⟨a108, a109, a110, a111, a112, a113, a114, a115, a116, a117, a118, a119⟩, a120, a121, a122⟩ := id hU
  refine PM.of (by decide) (by decide) (Nat.le_refl _) (Nat.le_of_ble_eq_true rfl) ?_
  refine pw_aload_n 0 rfl dX10_goesOn_0 rfl ?_
  refine pw_gI 33 33 rfl dX10_goesOn_1 cOk10 (by assumption) (by decide) kw_1098 (by decide) (fun r1 => ?_)
  rw [hc33] at r1 ⊢
  refine pw_istore_n 2 rfl dX10_goesOn_4 (by decide) ?_
  refine pw_aload_n 0 rfl dX10_goesOn_5 rfl ?_
  refine pw_iload_n 2 rfl dX10_goesOn_6 rfl ?_
  refine pw_callV (d' := d - 1) (As := [_]) (ci := 10) dX10_goesOn_7 ok_X10_numberOf kw_1362 rfl rfl (Of.o (by assumption)) (by omega) rfl (Nat.le_of_ble_eq_true rfl) (r_numberOf (d - 1) (by omega) n ok mem hU c (by omega)) (Nat.le_refl _) (Or.inl rfl) (fun r ok1 mem1 hq => ?_)
  obtain ⟨rfl, rfl, rfl⟩ := hq
  have hnr := num_ran hs
  refine pw_istore_n 3 rfl dX10_goesOn_10 (by decide) ?_
  refine pw_aload_n 0 rfl dX10_goesOn_11 rfl ?_
  refine pw_iconst dX10_goesOn_12 ?_
  refine pw_pZ 3 3 rfl dX10_goesOn_13 cOk10 (by assumption) (by decide) kw_1068 rfl rfl (by decide) (by omega) ?_
  obtain ⟨B0, eB0⟩ : ∃ x, x = wr mem 88 3 1 := ⟨_, rfl⟩
  rw [← eB0]
  have a0 : ∀ a, a ≠ 88 → B0 a = mem a := fun a q => by rw [eB0]; exact wr_a _ _ _ q
  have f0 : ∀ k, k ≠ 3 → B0 88 k = mem 88 k := fun k q => by rw [eB0]; exact wr_k _ _ _ _ q
  have f3 : B0 88 3 = 1 := by rw [eB0]; exact wr_s _ _ _ _
  have hGI0 : GI mem c B0 := GI_c hgi (fun a q1 q2 => a0 a (by omega)) (f0 34 (by omega)) (f0 35 (by omega)) (f0 36 (by omega))
  have hM0 : vMem B0 B0 c (aAt mem c) [] (B0 88 23) := (vMem.rf B0 c).cong (fun s _ _ => by show B0 92 _ = mem 92 _; rw [a0 92 (by omega)])
  refine pw_iload_n 1 rfl dX10_goesOn_16 rfl ?_
  refine pw_istore dX10_goesOn_17 (by decide) ?_
  have lp19 : ∀ (kz : Nat) (f : Nat) (l : Int) (b : pM) (v : Int → Int) (z : Int) (m1 : pM), (f : Int) < (kz : Int) → (l = f) → (l ≤ 1024) → (goB mem c k.toNat B0 = goB mem c f b) → (vMem b m1 c v [] z) → (GI mem c b) → (SF B0 b) → (pOkv mem c v) → (∀ s : Int, 0 ≤ s → s ≤ 15 → aKind mem c s = -1 → v s = aAt mem c s) → PW mi_X10_goesOn d n n (fun r ok' mem' => ∃ z : Int, r = none ∧ ok = ok' ∧ wr (goR mem c k) 88 23 z = mem') 19 [(0, vr 88), (1, vi k), (2, vi c), (3, vi (aNum mem c 16)), (4, vi l)] [] n ok m1 := by
    intro kz
    induction kz with
    | zero =>
      intro f l b v z m1 hk hl hl2 hG hM hb hF hv he
      exact absurd hk (by omega)
    | succ kz ih =>
      intro f l b v z m1 hk hl hl2 hG hM hb hF hv he
      have q34 : m1 88 34 = b 88 34 := hM.f (by omega) (by omega) (by omega) (by omega)
      have q35 : m1 88 35 = b 88 35 := hM.f (by omega) (by omega) (by omega) (by omega)
      have q108 : m1 108 = b 108 := hM.a (by omega) (by omega) (by omega)
      have h0 := hb.1.1.1
      refine pw_iload dX10_goesOn_19 rfl ?_
      refine pw_if_le 148 (by decide) dX10_goesOn_21 (by omega) (fun c21 => ?_) (fun c21 => ?_)
      · skip
        have ef : f = 0 := by omega
        subst ef
        have hE : goB mem c k.toNat B0 = b := hG
        have hMe := vM_w0 hM (a := 88) (k := 3) 0 (by omega) (by omega)
        have s1 : sSame mem (wr m1 88 3 0) := fun a q1 q2 q3 => by rw [wr_a _ _ _ (by omega), hM.a (by omega) q3 (by omega), hF.1 a (by omega) (by omega), eB0, wr_a _ _ _ (by omega)]
        refine pw_aload_n 0 rfl dX10_goesOn_148 rfl ?_
        refine pw_iconst dX10_goesOn_149 ?_
        refine pw_pZ 3 3 rfl dX10_goesOn_150 cOk10 (by assumption) (by decide) kw_1068 rfl rfl (by decide) (by omega) ?_
        refine pw_aload_n 0 rfl dX10_goesOn_153 rfl ?_
        refine pw_iload_n 2 rfl dX10_goesOn_154 rfl ?_
        refine pw_iload_n 3 rfl dX10_goesOn_155 rfl ?_
        refine pw_callV (d' := d - 1) (As := [_, _]) (ci := 10) dX10_goesOn_156 ok_X10_setNumber kw_1394 rfl rfl (Of.o (by assumption)) (by omega) rfl (Nat.le_of_ble_eq_true rfl) (r_setNumber (d - 1) (by omega) n ok (wr m1 88 3 0) hU c (aNum mem c 16) (by omega) (by omega) (sOk_s s1 hs.1).2.2) (Nat.le_refl _) (Or.inl rfl) (fun r ok1 m3 hq => ?_)
        obtain ⟨rfl, rfl, em3⟩ := hq
        have hM3 := vM_set hMe (aNum mem c 16)
        rw [em3] at hM3
        have sB : sSame mem (wr b 88 3 0) := fun a q1 q2 q3 => by rw [wr_a _ _ _ (by omega), hF.1 a (by omega) (by omega), a0 a (by omega)]
        rw [setV_s sB] at hM3
        have eM := vM_end hM3 (fun s q1 q2 => by
          rw [wr_a _ _ _ (by omega), hF.1 92 (by omega) (by omega), a0 92 (by omega)]
          by_cases q : aKind mem c s = -1
          · unfold setV; rw [if_pos q]; exact he s q1 q2 q
          · rw [aNum_v mem c 16 (by omega)]; exact (setV_num hs.1.2.2 v hs.2.1 s q1 q2 q).symm)
        subst eM
        refine pw_aload_n 0 rfl dX10_goesOn_159 rfl ?_
        refine pw_iconst dX10_goesOn_160 ?_
        refine pw_pZ 44 44 rfl dX10_goesOn_161 cOk10 (by assumption) (by decide) kw_1109 rfl rfl (by decide) (by omega) ?_
        refine pw_vret dX10_goesOn_164 rfl rfl ?_
        refine ⟨z, rfl, rfl, ?_⟩
        unfold goR; rw [← eB0, hE]; exact wr_c2 _ _ _ (by omega)
      · skip
        refine pw_aload_n 0 rfl dX10_goesOn_24 rfl ?_
        refine pw_gI 35 35 rfl dX10_goesOn_25 cOk10 (by assumption) (by decide) kw_1100 (by decide) (fun r25 => ?_)
        try simp (disch := omega) only [wr_s, wr_a, wr_k] at r25 ⊢
        rw [q35] at r25 ⊢
        refine pw_aload_n 0 rfl dX10_goesOn_28 rfl ?_
        refine pw_gI 34 34 rfl dX10_goesOn_29 cOk10 (by assumption) (by decide) kw_1099 (by decide) (fun r29 => ?_)
        try simp (disch := omega) only [wr_s, wr_a, wr_k] at r29 ⊢
        rw [q34] at r29 ⊢
        refine pw_icmp_ge 148 (by decide) dX10_goesOn_32 (by omega) (by omega) (fun c32 => ?_) (fun c32 => ?_)
        · skip
          have hE : goB mem c k.toNat B0 = b := by rw [hG]; exact goB_done _ _ _ _ (by omega)
          have hMe := vM_w0 hM (a := 88) (k := 3) 0 (by omega) (by omega)
          have s1 : sSame mem (wr m1 88 3 0) := fun a q1 q2 q3 => by rw [wr_a _ _ _ (by omega), hM.a (by omega) q3 (by omega), hF.1 a (by omega) (by omega), eB0, wr_a _ _ _ (by omega)]
          refine pw_aload_n 0 rfl dX10_goesOn_148 rfl ?_
          refine pw_iconst dX10_goesOn_149 ?_
          refine pw_pZ 3 3 rfl dX10_goesOn_150 cOk10 (by assumption) (by decide) kw_1068 rfl rfl (by decide) (by omega) ?_
          refine pw_aload_n 0 rfl dX10_goesOn_153 rfl ?_
          refine pw_iload_n 2 rfl dX10_goesOn_154 rfl ?_
          refine pw_iload_n 3 rfl dX10_goesOn_155 rfl ?_
          refine pw_callV (d' := d - 1) (As := [_, _]) (ci := 10) dX10_goesOn_156 ok_X10_setNumber kw_1394 rfl rfl (Of.o (by assumption)) (by omega) rfl (Nat.le_of_ble_eq_true rfl) (r_setNumber (d - 1) (by omega) n ok (wr m1 88 3 0) hU c (aNum mem c 16) (by omega) (by omega) (sOk_s s1 hs.1).2.2) (Nat.le_refl _) (Or.inl rfl) (fun r ok1 m3 hq => ?_)
          obtain ⟨rfl, rfl, em3⟩ := hq
          have hM3 := vM_set hMe (aNum mem c 16)
          rw [em3] at hM3
          have sB : sSame mem (wr b 88 3 0) := fun a q1 q2 q3 => by rw [wr_a _ _ _ (by omega), hF.1 a (by omega) (by omega), a0 a (by omega)]
          rw [setV_s sB] at hM3
          have eM := vM_end hM3 (fun s q1 q2 => by
            rw [wr_a _ _ _ (by omega), hF.1 92 (by omega) (by omega), a0 92 (by omega)]
            by_cases q : aKind mem c s = -1
            · unfold setV; rw [if_pos q]; exact he s q1 q2 q
            · rw [aNum_v mem c 16 (by omega)]; exact (setV_num hs.1.2.2 v hs.2.1 s q1 q2 q).symm)
          subst eM
          refine pw_aload_n 0 rfl dX10_goesOn_159 rfl ?_
          refine pw_iconst dX10_goesOn_160 ?_
          refine pw_pZ 44 44 rfl dX10_goesOn_161 cOk10 (by assumption) (by decide) kw_1109 rfl rfl (by decide) (by omega) ?_
          refine pw_vret dX10_goesOn_164 rfl rfl ?_
          refine ⟨z, rfl, rfl, ?_⟩
          unfold goR; rw [← eB0, hE]; exact wr_c2 _ _ _ (by omega)
        · skip
          obtain ⟨f, rfl⟩ : ∃ f1, f = f1 + 1 := ⟨f - 1, by omega⟩
          have hx := hb.1.1.2.1 (b 88 35) (by omega) (by omega)
          refine pw_aload_n 0 rfl dX10_goesOn_35 rfl ?_
          refine pw_gR 37 108 dX10_goesOn_36 cOk10 (by assumption) (by decide) kw_1102 (by decide) rfl ?_
          refine pw_aload_n 0 rfl dX10_goesOn_39 rfl ?_
          refine pw_gI 35 35 rfl dX10_goesOn_40 cOk10 (by assumption) (by decide) kw_1100 (by decide) (fun r40 => ?_)
          try simp (disch := omega) only [wr_s, wr_a, wr_k] at r40 ⊢
          rw [q35] at r40 ⊢
          refine pw_iaload dX10_goesOn_43 (by assumption) (by omega) (by omega) (fun r43 => ?_)
          try simp (disch := omega) only [wr_s, wr_a, wr_k] at r43 ⊢
          rw [q108] at r43 ⊢
          refine pw_istore dX10_goesOn_44 (by decide) ?_
          refine pw_iconst dX10_goesOn_46 ?_
          refine pw_istore dX10_goesOn_47 (by decide) ?_
          have lp49 : ∀ (kz2 : Nat) (j : Nat) (b2 : pM) (v2 : Int → Int) (z2 : Int) (m2 : pM), 38 - (j : Int) < (kz2 : Int) → (j ≤ 38) → (lmB mem c b (b 88 35) (b 108 (b 88 35)) j = b2) → (vMem b2 m2 c v2 [] z2) → (pOkv mem c v2) → (∀ s : Int, 0 ≤ s → s ≤ 15 → aKind mem c s = -1 → v2 s = aAt mem c s) → PW mi_X10_goesOn d n n (fun r ok' mem' => ∃ z : Int, r = none ∧ ok = ok' ∧ wr (goR mem c k) 88 23 z = mem') 49 [(0, vr 88), (1, vi k), (2, vi c), (3, vi (aNum mem c 16)), (4, vi l), (5, vi (b 108 (b 88 35))), (6, vi (j : Int))] [] n ok m2 := by
            intro kz2
            induction kz2 with
            | zero =>
              intro j b2 v2 z2 m2 hk2 hj hb2e hM2 hv2 he2
              exact absurd hk2 (by omega)
            | succ kz2 ih2 =>
              intro j b2 v2 z2 m2 hk2 hj hb2e hM2 hv2 he2
              have hL := LI_n hs.1 hs.2.2 hb (by omega) j hj
              rw [hb2e] at hL
              have hF2 := hF.tr hL.2.2.2.1
              have sb2 : sSame mem b2 := fun a q1 q2 q3 => (hF2.1 a (by omega) (by omega)).trans (a0 a (by omega))
              have s2 : sSame mem m2 := fun a q1 q2 q3 => (hM2.s a q1 q2 q3).trans (sb2 a q1 q2 q3)
              have q35b : m2 88 35 = b 88 35 := (hM2.f (by omega) (by omega) (by omega) (by omega)).trans hL.2.1
              have hL0 := hL.1.1.1.1
              have hLE := hL.2.2.1.1
              have hlx := hL.2.2.1.2.1 (b 108 (b 88 35)) (by omega)
              have b2q3 : b2 88 3 = 1 := (hF2.2 3 (by omega) (by omega) (by omega)).trans f3
              have b2q33 : b2 88 33 = c := (hF2.2 33 (by omega) (by omega) (by omega)).trans ((f0 33 (by omega)).trans hc33)
              have b2q19 : b2 88 19 = mem 88 19 := (hF2.2 19 (by omega) (by omega) (by omega)).trans (f0 19 (by omega))
              have f19 : ∀ {m9 : pM} {w : Int → Int} {y : Int}, vMem b2 m9 c w [] y → m9 88 19 = mem 88 19 := fun h9 => by rw [h9.1 88 (by omega), wr_k _ _ _ _ (by omega)]; exact b2q19
              have f3b : ∀ {m9 : pM} {w : Int → Int} {y : Int}, vMem b2 m9 c w [] y → m9 88 3 = 1 := fun h9 => (h9.f (by omega) (by omega) (by omega) (by omega)).trans b2q3
              have sM : ∀ {m9 : pM} {w : Int → Int} {y : Int}, vMem b2 m9 c w [] y → sSame mem m9 := fun h9 a q1 q2 q3 => (h9.s a q1 q2 q3).trans (sb2 a q1 q2 q3)
              refine pw_iload dX10_goesOn_49 rfl ?_
              refine pw_bipush dX10_goesOn_51 (by decide) ?_
              refine pw_icmp_ge 132 (by decide) dX10_goesOn_53 (by omega) (by omega) (fun c53 => ?_) (fun c53 => ?_)
              · skip
                have ej : j = 38 := by omega
                subst ej
                refine pw_aload_n 0 rfl dX10_goesOn_132 rfl ?_
                refine pw_dup dX10_goesOn_133 rfl ?_
                refine pw_gI 35 35 rfl dX10_goesOn_134 cOk10 (by assumption) (by decide) kw_1100 (by decide) (fun r134 => ?_)
                try simp (disch := omega) only [wr_s, wr_a, wr_k] at r134 ⊢
                rw [q35b] at r134 ⊢
                refine pw_iconst dX10_goesOn_137 ?_
                refine pw_iadd dX10_goesOn_138 ?_
                refine pw_pI 35 35 rfl dX10_goesOn_139 cOk10 (by assumption) (by decide) kw_1100 rfl rfl (by decide) (by omega) ?_
                refine pw_iinc dX10_goesOn_142 rfl (by decide) ?_
                refine pw_goto 19 (by decide) dX10_goesOn_145 ?_
                exact pw_locs _ rfl (ih f (l + -1) (tkB mem c b) v2 z2 _ (by omega) (by omega) (by omega) (by rw [hG, goB_succ, if_pos (by omega)]) (by unfold tkB; rw [hb2e]; exact vM_w0 hM2 (a := 88) (k := 35) (b 88 35 + 1) (by omega) (by omega)) (GI_tk hs.1 hs.2.2 hb (by omega)).1 (hF.tr (GI_tk hs.1 hs.2.2 hb (by omega)).2.2) hv2 he2)
              · skip
                refine pw_aload_n 0 rfl dX10_goesOn_56 rfl ?_
                refine pw_iload_n 2 rfl dX10_goesOn_57 rfl ?_
                refine pw_iload dX10_goesOn_58 rfl ?_
                refine pw_callV (d' := d - 1) (As := [_, _]) (ci := 10) dX10_goesOn_60 ok_X10_setNumber kw_1394 rfl rfl (Of.o (by assumption)) (by omega) rfl (Nat.le_of_ble_eq_true rfl) (r_setNumber (d - 1) (by omega) n ok m2 hU c (b 108 (b 88 35)) (by omega) (by omega) (sOk_s s2 hs.1).2.2) (Nat.le_refl _) (Or.inl rfl) (fun r ok1 m3 hq => ?_)
                obtain ⟨rfl, rfl, em3⟩ := hq
                have hM3 := vM_set hM2 (b 108 (b 88 35))
                rw [em3, setV_s sb2] at hM3
                have hv3 : pOkv mem c (setV mem c v2 (b 108 (b 88 35))) := setV_ok hs.1.2.2 v2 _
                have he3 : ∀ s : Int, 0 ≤ s → s ≤ 15 → aKind mem c s = -1 → setV mem c v2 (b 108 (b 88 35)) s = aAt mem c s := fun s q1 q2 q3 => by unfold setV; rw [if_pos q3]; exact he2 s q1 q2 q3
                have s3 := sM hM3
                have t3 := f19 hM3
                refine pw_iconst dX10_goesOn_63 ?_
                refine pw_istore dX10_goesOn_64 (by decide) ?_
                refine pw_aload_n 0 rfl dX10_goesOn_66 rfl ?_
                refine pw_iload_n 2 rfl dX10_goesOn_67 rfl ?_
                refine pw_iload dX10_goesOn_68 rfl ?_
                refine pw_callV (d' := d - 1) (As := [_, _]) (ci := 10) dX10_goesOn_70 ok_X10_isFree kw_1398 rfl rfl (Of.o (by assumption)) (by omega) rfl (Nat.le_of_ble_eq_true rfl) (r_isFree (d - 1) (by omega) n ok m3 hU c (j : Int) (by omega) (by omega) (sOk_s s3 hs.1) (pOkv_v hM3.at (pOkv_s s3 hv3)) (by omega)) (Nat.le_refl _) (Or.inl rfl) (fun r ok1 m4 hq => ?_)
                obtain ⟨z4, rfl, rfl, em4⟩ := hq
                rw [rEv_q (by rw [f3b hM3]; omega)] at em4
                rw [iRes_v (sOk_s s3 hs.1) hM3.at (by omega), iRes_s s3]
                have h01 := iRes_01 mem c (setV mem c v2 (b 108 (b 88 35))) (j : Int)
                have hM4 : vMem b2 m4 c (setV mem c v2 (b 108 (b 88 35))) [] z4 := by rw [← em4]; exact hM3.e [] z4
                have s4 := sM hM4
                have t4 := f19 hM4
                have q35c : m4 88 35 = b 88 35 := (hM4.f (by omega) (by omega) (by omega) (by omega)).trans hL.2.1
                have eV := mvN_v hs.1 v2 (b 108 (b 88 35)) (mv := (j : Int)) (by omega)
                refine pw_if_eq 109 (by decide) dX10_goesOn_73 (by omega) (fun c73 => ?_) (fun c73 => ?_)
                · skip
                  have eU : (mvN mem c (b 108 (b 88 35)) (j : Int)) = -1 := by rw [eV, if_pos c73]
                  refine pw_aload_n 0 rfl dX10_goesOn_109 rfl ?_
                  refine pw_gR 43 114 dX10_goesOn_110 cOk10 (by assumption) (by decide) kw_1108 (by decide) rfl ?_
                  refine pw_bipush dX10_goesOn_113 (by decide) ?_
                  refine pw_aload_n 0 rfl dX10_goesOn_115 rfl ?_
                  refine pw_gI 35 35 rfl dX10_goesOn_116 cOk10 (by assumption) (by decide) kw_1100 (by decide) (fun r116 => ?_)
                  try simp (disch := omega) only [wr_s, wr_a, wr_k] at r116 ⊢
                  rw [q35c] at r116 ⊢
                  refine pw_imul dX10_goesOn_119 ?_
                  refine pw_iload dX10_goesOn_120 rfl ?_
                  refine pw_iadd dX10_goesOn_122 ?_
                  refine pw_iload dX10_goesOn_123 rfl ?_
                  refine pw_iastore dX10_goesOn_125 (by assumption) (by omega) (by omega) (by omega) ?_
                  refine pw_iinc dX10_goesOn_126 rfl (by decide) ?_
                  refine pw_goto 49 (by decide) dX10_goesOn_129 ?_
                  exact pw_locs _ rfl (ih2 (j + 1) _ _ z4 _ (by omega) (by omega) (by show ldB mem c (lmB mem c b (b 88 35) (b 108 (b 88 35)) j) _ _ _ = _; rw [hb2e]; unfold ldB; rw [if_pos eU]) (vM_w0 hM4 (a := 114) (k := 38 * b 88 35 + j) (-1) (by omega) (by omega)) hv3 he3)
                · skip
                  rw [if_neg c73] at eV
                  have hkd : (j : Int) < 32 → aKind mem c ((j : Int) / 2) ≠ -1 := fun q => iRes_kind c73 q
                  refine pw_aload_n 0 rfl dX10_goesOn_76 rfl ?_
                  refine pw_iload_n 2 rfl dX10_goesOn_77 rfl ?_
                  refine pw_iload dX10_goesOn_78 rfl ?_
                  refine pw_callV (d' := d - 1) (As := [_, _]) (ci := 10) dX10_goesOn_80 ok_X10_does kw_1406 rfl rfl (Of.o (by assumption)) (by omega) rfl (Nat.le_of_ble_eq_true rfl) (r_does (d - 1) (by omega) n ok m4 hU c (j : Int) (by omega) (by omega) ⟨sOk_s s4 hs.1, pOkv_v hM4.at (pOkv_s s4 hv3), by rw [pW_s s4]; exact hs.2.2⟩ (by unfold aKind; rw [s4.kind]; exact hkd) (by omega)) (Nat.le_refl _) (Or.inl rfl) (fun r ok1 m5 hq => ?_)
                  obtain ⟨z5, rfl, rfl, hM5a⟩ := hq
                  have hM5b := vM_q (by rw [f3b hM4]; omega) hM5a
                  rw [dRes_s s4] at hM5b
                  have hdv := dRes_v (m := mem) hs.1 (show 0 ≤ (j : Int) by omega) (show vEq (setV mem c v2 (b 108 (b 88 35))) (aAt m4 c) from hM4.at)
                  have hM5 : vMem b2 m5 c (dRes mem c (j : Int) (setV mem c v2 (b 108 (b 88 35)))).1 [] z5 := hM4.trans (hM5b.cong hdv.1)
                  have hv5 := dRes_ok hs.1.2.2 (show 0 ≤ (j : Int) by omega) hkd hv3
                  have he5 : ∀ s : Int, 0 ≤ s → s ≤ 15 → aKind mem c s = -1 → (dRes mem c (j : Int) (setV mem c v2 (b 108 (b 88 35)))).1 s = aAt mem c s := fun s q1 q2 q3 => by rw [dRes_e mem c (j : Int) hkd _ s q3]; exact he3 s q1 q2 q3
                  have s5 := sM hM5
                  have t5 := f19 hM5
                  have q33 : m5 88 33 = c := (hM5.f (by omega) (by omega) (by omega) (by omega)).trans b2q33
                  have q34c : m5 88 34 = b2 88 34 := hM5.f (by omega) (by omega) (by omega) (by omega)
                  have q35d : m5 88 35 = b 88 35 := (hM5.f (by omega) (by omega) (by omega) (by omega)).trans hL.2.1
                  have q109 : m5 109 = b2 109 := hM5.a (by omega) (by omega) (by omega)
                  have hUr := mvN_ran hs.1 (b 108 (b 88 35)) (mv := (j : Int)) (by omega)
                  have hUn := numV_ran hs.1.2.2 hv5 16 (by omega)
                  have eUn : (mvN mem c (b 108 (b 88 35)) (j : Int)) ≠ -1 := by rw [eV]; omega
                  refine pw_aload_n 0 rfl dX10_goesOn_83 rfl ?_
                  refine pw_aload_n 0 rfl dX10_goesOn_84 rfl ?_
                  refine pw_iload_n 2 rfl dX10_goesOn_85 rfl ?_
                  refine pw_callV (d' := d - 1) (As := [_]) (ci := 10) dX10_goesOn_86 ok_X10_numberOf kw_1362 rfl rfl (Of.o (by assumption)) (by omega) rfl (Nat.le_of_ble_eq_true rfl) (r_numberOf (d - 1) (by omega) n ok m5 hU c (by omega)) (Nat.le_refl _) (Or.inl rfl) (fun r ok1 mem1 hq => ?_)
                  obtain ⟨rfl, rfl, rfl⟩ := hq
                  rw [aNum_V s5 c hM5.at 16 (by omega), ← eV]
                  have hpw := hs.2.2
                  refine pw_aload_n 0 rfl dX10_goesOn_89 rfl ?_
                  refine pw_gR 38 109 dX10_goesOn_90 cOk10 (by assumption) (by decide) kw_1103 (by decide) rfl ?_
                  refine pw_iload dX10_goesOn_93 rfl ?_
                  refine pw_iaload dX10_goesOn_95 (by assumption) (by omega) (by omega) (fun r95 => ?_)
                  try simp (disch := omega) only [wr_s, wr_a, wr_k] at r95 ⊢
                  rw [q109] at r95 ⊢
                  refine pw_iconst dX10_goesOn_96 ?_
                  refine pw_iadd dX10_goesOn_97 ?_
                  refine pw_aload_n 0 rfl dX10_goesOn_98 rfl ?_
                  refine pw_gI 35 35 rfl dX10_goesOn_99 cOk10 (by assumption) (by decide) kw_1100 (by decide) (fun r99 => ?_)
                  try simp (disch := omega) only [wr_s, wr_a, wr_k] at r99 ⊢
                  rw [q35d] at r99 ⊢
                  refine pw_iload dX10_goesOn_102 rfl ?_
                  refine pw_callV (d' := d - 1) (As := [_, _, _, _]) (ci := 10) dX10_goesOn_104 ok_X10_come kw_1366 rfl rfl (Of.o (by assumption)) (by omega) rfl (Nat.le_of_ble_eq_true rfl) (r_come (d - 1) (by omega) n ok m5 hU (mvN mem c (b 108 (b 88 35)) (j : Int)) (b2 109 (b 108 (b 88 35)) + 1) (b 88 35) (j : Int) (by omega) (by omega) (by omega) (by omega) (by rw [f3b hM5]; omega) (by omega) (by rw [q33]; exact sOk_s s5 hs.1) (by rw [q33]; exact pOkv_v hM5.at (pOkv_s s5 hv5)) (by omega) (by omega) (by rw [q109, q34c]; exact fun q => hL.1.1.1.room (by omega) (by omega) q)) (Nat.le_refl _) (Or.inl rfl) (fun r ok1 m6 hq => ?_)
                  obtain ⟨z6, rfl, rfl, em6⟩ := hq
                  have eop : oRes m5 (m5 88 33) (aAt m5 (m5 88 33)) = opN mem c (mvN mem c (b 108 (b 88 35)) (j : Int)) := by rw [q33, oRes_v (sOk_s s5 hs.1) hM5.at, oRes_s s5, eV]; exact (opN_num hs.1 hv5).symm
                  rw [eop] at em6
                  rw [eop]
                  have hM6 := vM_cm hM5 (mvN mem c (b 108 (b 88 35)) (j : Int)) (b2 109 (b 108 (b 88 35)) + 1) (b 88 35) (j : Int) (opN mem c (mvN mem c (b 108 (b 88 35)) (j : Int)))
                  have hM7 : vMem (cmB b2 (mvN mem c (b 108 (b 88 35)) (j : Int)) (b2 109 (b 108 (b 88 35)) + 1) (b 88 35) (j : Int) (opN mem c (mvN mem c (b 108 (b 88 35)) (j : Int)))) m6 c (dRes mem c (j : Int) (setV mem c v2 (b 108 (b 88 35)))).1 [] z6 := by rw [← em6]; exact hM6.e [] z6
                  have e110 : (cmB m5 (mvN mem c (b 108 (b 88 35)) (j : Int)) (b2 109 (b 108 (b 88 35)) + 1) (b 88 35) (j : Int) (opN mem c (mvN mem c (b 108 (b 88 35)) (j : Int)))) 110 = (cmB b2 (mvN mem c (b 108 (b 88 35)) (j : Int)) (b2 109 (b 108 (b 88 35)) + 1) (b 88 35) (j : Int) (opN mem c (mvN mem c (b 108 (b 88 35)) (j : Int)))) 110 := hM6.a (by omega) (by omega) (by omega)
                  rw [e110]
                  have hcF := cmB_F b2 (mvN mem c (b 108 (b 88 35)) (j : Int)) (b2 109 (b 108 (b 88 35)) + 1) (b 88 35) (j : Int) (opN mem c (mvN mem c (b 108 (b 88 35)) (j : Int)))
                  have hcq := cmB_q (by' := (j : Int)) (op := opN mem c (mvN mem c (b 108 (b 88 35)) (j : Int))) hL.1.1.1 (show 0 ≤ (mvN mem c (b 108 (b 88 35)) (j : Int)) ∧ (mvN mem c (b 108 (b 88 35)) (j : Int)) < 1024 by omega) (show b2 109 (b 108 (b 88 35)) + 1 = 0 ∨ (0 ≤ b 88 35 ∧ b 88 35 < b2 88 34 ∧ b2 109 (b 108 (b 88 35)) + 1 = b2 109 (b2 108 (b 88 35)) + 1) from Or.inr ⟨by omega, by omega, by rw [(hL.2.2.1.2.2 (b 88 35) (by omega)).1]⟩)
                  have hcr := hcq.1.2.2.1 (mvN mem c (b 108 (b 88 35)) (j : Int)) (by omega) (by omega)
                  have hc34 := hcq.1.1
                  have q35e : m6 88 35 = b 88 35 := (hM7.f (by omega) (by omega) (by omega) (by omega)).trans (hcF.2.1.trans hL.2.1)
                  refine pw_istore dX10_goesOn_107 (by decide) ?_
                  refine pw_aload_n 0 rfl dX10_goesOn_109 rfl ?_
                  refine pw_gR 43 114 dX10_goesOn_110 cOk10 (by assumption) (by decide) kw_1108 (by decide) rfl ?_
                  refine pw_bipush dX10_goesOn_113 (by decide) ?_
                  refine pw_aload_n 0 rfl dX10_goesOn_115 rfl ?_
                  refine pw_gI 35 35 rfl dX10_goesOn_116 cOk10 (by assumption) (by decide) kw_1100 (by decide) (fun r116 => ?_)
                  try simp (disch := omega) only [wr_s, wr_a, wr_k] at r116 ⊢
                  rw [q35e] at r116 ⊢
                  refine pw_imul dX10_goesOn_119 ?_
                  refine pw_iload dX10_goesOn_120 rfl ?_
                  refine pw_iadd dX10_goesOn_122 ?_
                  refine pw_iload dX10_goesOn_123 rfl ?_
                  refine pw_iastore dX10_goesOn_125 (by assumption) (by omega) (by omega) (by omega) ?_
                  refine pw_iinc dX10_goesOn_126 rfl (by decide) ?_
                  refine pw_goto 49 (by decide) dX10_goesOn_129 ?_
                  exact pw_locs _ rfl (ih2 (j + 1) _ _ z6 _ (by omega) (by omega) (by show ldB mem c (lmB mem c b (b 88 35) (b 108 (b 88 35)) j) _ _ _ = _; rw [hb2e]; unfold ldB; rw [if_neg eUn]) (vM_w0 hM7 (a := 114) (k := 38 * b 88 35 + j) _ (by omega) (by omega)) hv5 he5)
          exact pw_locs _ rfl (lp49 39 0 b v z m1 (by omega) (by omega) rfl hM hv he)
  exact pw_locs _ rfl (lp19 (k.toNat + 1) k.toNat k B0 (aAt mem c) (B0 88 23) B0 (by omega) (by omega) (by omega) rfl hM0 hGI0 (SF.rf B0) hs.2.1 (fun _ _ _ _ => rfl))
