/-! ===== the class's own methods: moves, plays, tries ===== -/
def BK (A B : pM) (c : Int) : Prop := (∀ a, 89 ≤ a → a ≤ 122 → a ≠ 101 → a ≠ 102 → a ≠ 107 → B a = A a) ∧ (∀ j, j ≠ 27 → j ≠ 28 → j ≠ 29 → j ≠ 30 → B 88 j = A 88 j) ∧ (∀ c', c' ≠ c → B 101 c' = A 101 c') ∧ (∀ j, (j < 30 * c ∨ 30 * c + 30 ≤ j) → B 102 j = A 102 j) ∧ (0 ≤ B 101 c ∧ B 101 c ≤ 30 ∧ ∀ j, 0 ≤ j → j < B 101 c → 0 ≤ B 102 (30 * c + j) ∧ B 102 (30 * c + j) ≤ 1023)
theorem BK.rf {A : pM} {c : Int} (h : KOk A) (hc : 0 ≤ c ∧ c ≤ 2) : BK A A c := ⟨fun _ _ _ _ _ _ => rfl, fun _ _ _ _ _ => rfl, fun _ _ => rfl, fun _ _ => rfl, h c hc.1 hc.2⟩
theorem BK.c {A B B2 : pM} {c : Int} (h : BK A B c) (e : ∀ a, 89 ≤ a → a ≤ 122 → a ≠ 107 → B2 a = B a) (k : ∀ j, j ≠ 27 → j ≠ 28 → j ≠ 29 → j ≠ 30 → B2 88 j = B 88 j) : BK A B2 c := by
  obtain ⟨h1, h2, h3, h4, h5⟩ := h
  refine ⟨fun a a1 a2 a3 a4 a5 => (e a a1 a2 a5).trans (h1 a a1 a2 a3 a4 a5), fun j j1 j2 j3 j4 => (k j j1 j2 j3 j4).trans (h2 j j1 j2 j3 j4), fun c' q => by rw [e 101 (by omega) (by omega) (by omega)]; exact h3 c' q, fun j q => by rw [e 102 (by omega) (by omega) (by omega)]; exact h4 j q, ?_⟩
  rw [e 101 (by omega) (by omega) (by omega), e 102 (by omega) (by omega) (by omega)]; exact h5
theorem BK.keep {A B : pM} {c : Int} (h : BK A B c) {x : Int} (hx : 0 ≤ x ∧ x ≤ 1023) : BK A (rKeep B c x) c := by
  obtain ⟨h1, h2, h3, h4, h5, h6, h7⟩ := h
  refine ⟨fun a a1 a2 a3 a4 a5 => by rw [rKeep_a a3 a4]; exact h1 a a1 a2 a3 a4 a5, fun j j1 j2 j3 j4 => by rw [rKeep_a (by omega) (by omega)]; exact h2 j j1 j2 j3 j4, fun c' q => ?_, fun j q => ?_, ?_⟩
  · rw [← h3 c' q]; unfold rKeep; split
    · rw [wr_k _ _ _ _ q, wr_a _ _ _ (by omega), wr_k _ _ _ _ q, cpM_a _ _ _ _ _ (by omega)]
    · rw [wr_k _ _ _ _ q, wr_a _ _ _ (by omega)]
  · rw [← h4 j q]; unfold rKeep; split
    · rw [wr_a _ _ _ (by omega), wr_k _ _ _ _ (by omega), wr_a _ _ _ (by omega)]
      unfold cpM; rw [if_neg (by omega)]
    · rw [wr_a _ _ _ (by omega), wr_k _ _ _ _ (by omega)]
  · have hn := rKeep_n (x := x) ⟨h5, h6⟩
    refine ⟨hn.1, hn.2, fun i i1 i2 => ?_⟩
    by_cases q : B 101 c = 30
    · have r1 : rKeep B c x 101 c = 30 := by unfold rKeep; rw [if_pos q, wr_s]; omega
      unfold rKeep; rw [if_pos q, wr_a _ _ _ (by omega)]
      by_cases w : i = 29
      · rw [show 30 * c + i = 30 * c + (B 101 c - 1) by omega, wr_s]; exact hx
      · rw [wr_k _ _ _ _ (by omega), wr_a _ _ _ (by omega)]
        unfold cpM; rw [if_pos (by omega)]
        have := h7 (i + 1) (by omega) (by omega)
        rw [show 30 * c + 1 + (30 * c + i - 30 * c) = 30 * c + (i + 1) by omega]; exact this
    · have r1 : rKeep B c x 101 c = B 101 c + 1 := by unfold rKeep; rw [if_neg q, wr_s]
      rw [r1] at i2
      unfold rKeep; rw [if_neg q, wr_a _ _ _ (by omega)]
      by_cases w : i = B 101 c
      · rw [w, wr_s]; exact hx
      · rw [wr_k _ _ _ _ (by omega)]; exact h7 i i1 (by omega)
theorem BK.all {A B : pM} {c : Int} (h : BK A B c) (k : Nat) (hx : ∀ i : Nat, i < k → 0 ≤ B 107 i ∧ B 107 i ≤ 1023) : BK A (rKeepAll B c k) c := by
  induction k with
  | zero => exact h
  | succ k ih => exact (ih (fun i hi => hx i (by omega))).keep (hx k (by omega))
theorem KR_all {B m : pM} {c : Int} {b : Nat} (h : KR B c m b) (hk : 0 ≤ B 101 c ∧ B 101 c ≤ 30) (k : Nat) (hx : ∀ i : Nat, i < k → m 87 i = B 107 i) : KR (rKeepAll B c k) c (kpAll m b k) b := by
  induction k with
  | zero => exact h
  | succ k ih =>
    show KR (rKeep (rKeepAll B c k) c (B 107 k)) c (kpP (kpAll m b k) b (m 87 k)) b
    rw [hx k (by omega)]
    exact KR_push (ih (fun i hi => hx i (by omega))) (rKeepAll_n hk k) _
theorem mv_ch {A B m9 : pM} {c : Int} {v : Int → Int} {ev : pEv} {z : Int} (eB : BK A B c) (h9 : vMem B m9 c v ev z) (c' : Int) (q : c' ≠ c) : chX A m9 c' := by
  have e : ∀ a, 89 ≤ a → a ≤ 102 → a ≠ 92 → a ≠ 101 → a ≠ 102 → m9 a = A a := fun a a1 a2 a3 a4 a5 => (h9.a (by omega) a3 (by omega)).trans (eB.1 a a1 (by omega) a4 a5 (by omega))
  refine ⟨fun r _ _ => by rw [e 89 (by omega) (by omega) (by omega) (by omega) (by omega)], fun a a1 a2 s s1 s2 => ?_, by rw [e 94 (by omega) (by omega) (by omega) (by omega) (by omega)], fun a a1 a2 s _ _ => by rw [e a (by omega) (by omega) (by omega) (by omega) (by omega)], fun j _ _ => by rw [e 98 (by omega) (by omega) (by omega) (by omega) (by omega)], by rw [e 99 (by omega) (by omega) (by omega) (by omega) (by omega)], by rw [e 100 (by omega) (by omega) (by omega) (by omega) (by omega)], by rw [h9.a (by omega) (by omega) (by omega)]; exact eB.2.2.1 c' q, fun i i1 i2 => by rw [h9.a (by omega) (by omega) (by omega)]; exact eB.2.2.2.1 _ (by omega)⟩
  by_cases w : a = 92
  · subst w
    rw [h9.2.2 _ (by omega), eB.1 92 (by omega) (by omega) (by omega) (by omega) (by omega)]
  · rw [e a (by omega) (by omega) w (by omega) (by omega)]
theorem mv_v {A B m9 : pM} {c : Int} {v : Int → Int} {ev : pEv} {z : Int} (h9 : vMem B m9 c v ev z) (hv : pOkv A c v) : pOkv A c (aAt m9 c) := fun s s1 s2 hk => by rw [h9.at s s1 s2]; exact hv s s1 s2 hk
theorem RI_moved {A B m9 : pM} {c : Int} {v : Int → Int} {ev : pEv} {z : Int} (h : RI A) (hc : 0 ≤ c ∧ c ≤ 2) (eB : BK A B c) (h9 : vMem B m9 c v ev z) (hv : pOkv A c v) (hl : A 88 19 + ev.length ≤ 700000) : RI m9 := by
  have e : ∀ a, 89 ≤ a → a ≤ 122 → a ≠ 92 → a ≠ 101 → a ≠ 102 → a ≠ 103 → a ≠ 107 → m9 a = A a := fun a a1 a2 a3 a4 a5 a6 a7 => (h9.a (by omega) a3 a6).trans (eB.1 a a1 (by omega) a4 a5 a7)
  have k : ∀ j, j ≠ 1 → j ≠ 2 → j ≠ 19 → j ≠ 23 → j ≠ 27 → j ≠ 28 → j ≠ 29 → j ≠ 30 → m9 88 j = A 88 j := fun j j1 j2 j3 j4 j5 j6 j7 j8 => (h9.f j1 j2 j3 j4).trans (eB.2.1 j j5 j6 j7 j8)
  have ch : ∀ c', 0 ≤ c' → c' ≤ 2 → c' ≠ c → chX A m9 c' := fun c' _ _ q => mv_ch eB h9 c' q
  have b19 : B 88 19 = A 88 19 := eB.2.1 19 (by omega) (by omega) (by omega) (by omega)
  have t := h9.tr (by rw [b19]; exact h.2.2.1.1)
  have h101 : m9 101 = B 101 := h9.a (by omega) (by omega) (by omega)
  have h102 : m9 102 = B 102 := h9.a (by omega) (by omega) (by omega)
  refine RI_c h (IOk_one h.1 (cIn_v (h.1 c hc.1 hc.2) (fun a a1 a2 a3 => e a a1 (by omega) a3 (by omega) (by omega) (by omega) (by omega)) (mv_v h9 hv)) ch) (KOk_one h.2.1 (by rw [h101, h102]; exact eB.2.2.2.2) ch) ⟨t.1, by omega⟩ ?_ ?_ ?_ (fun a a1 a2 => e a (by omega) (by omega) (by omega) (by omega) (by omega) (by omega) (by omega)) (fun j j1 j2 j3 => k j (by omega) (by omega) (by omega) (by omega) (by omega) (by omega) (by omega) (by omega)) (fun _ y => ⟨by rw [k 32 (by omega) (by omega) (by omega) (by omega) (by omega) (by omega) (by omega) (by omega)] at y; exact y, chEq.of (fun a a1 a2 a3 => e a a1 (by omega) a3 (by omega) (by omega) (by omega) (by omega))⟩)
  · rw [k 3 (by omega) (by omega) (by omega) (by omega) (by omega) (by omega) (by omega) (by omega)]; exact h.2.2.2.1
  · unfold RIt; rw [k 24 (by omega) (by omega) (by omega) (by omega) (by omega) (by omega) (by omega) (by omega), e 106 (by omega) (by omega) (by omega) (by omega) (by omega) (by omega) (by omega)]; exact h.2.2.2.2.1
  · unfold RIm; rw [e 119 (by omega) (by omega) (by omega) (by omega) (by omega) (by omega) (by omega)]; exact h.2.2.2.2.2.2.2.2
theorem RG_moved {A B m m1 m9 : pM} {n : Nat} {c : Int} {b : Nat} {v : Int → Int} {ev : pEv} {z : Int} (h : RG A m n) (hR : RI A) (hc : 0 ≤ c ∧ c ≤ 2) (hb : (b : Int) = 5 + 18 * c) (eB : BK A B c) (h9 : vMem B m9 c v ev z) (hKR : KR B c m1 b) (em : ∀ a, a ≠ 1 → a ≠ 2 → a ≠ 3 → a ≠ 87 → a ≠ b + 4 → a ≠ b + 16 → a ≠ b + 17 → m1 a = m a) (e10 : m1 1 10 = m 1 10) (e11 : m1 1 11 = m 1 11) (e2 : m1 2 = nEv m ev 2) (e3 : m1 3 = nEv m ev 3) (hcv : CV A c m1 b v) (hAt : RAt m9 m1) : RG m9 m1 n := by
  have e : ∀ a, 89 ≤ a → a ≤ 122 → a ≠ 92 → a ≠ 101 → a ≠ 102 → a ≠ 103 → a ≠ 107 → m9 a = A a := fun a a1 a2 a3 a4 a5 a6 a7 => (h9.a (by omega) a3 a6).trans (eB.1 a a1 (by omega) a4 a5 a7)
  have k : ∀ j, j ≠ 1 → j ≠ 2 → j ≠ 19 → j ≠ 23 → j ≠ 27 → j ≠ 28 → j ≠ 29 → j ≠ 30 → m9 88 j = A 88 j := fun j j1 j2 j3 j4 j5 j6 j7 j8 => (h9.f j1 j2 j3 j4).trans (eB.2.1 j j5 j6 j7 j8)
  have h101 : m9 101 = B 101 := h9.a (by omega) (by omega) (by omega)
  have h102 : m9 102 = B 102 := h9.a (by omega) (by omega) (by omega)
  have kB := eB.2.1
  have hNB : NR B m := NR_c h.1 (kB _ (by omega) (by omega) (by omega) (by omega)) (kB _ (by omega) (by omega) (by omega) (by omega)) (kB _ (by omega) (by omega) (by omega) (by omega)) (eB.1 _ (by omega) (by omega) (by omega) (by omega) (by omega)) rfl rfl
  have hNE := NR_ev hNB (by rw [kB 19 (by omega) (by omega) (by omega) (by omega)]; exact hR.2.2.1.1) (by rw [kB 3 (by omega) (by omega) (by omega) (by omega)]; exact hR.2.2.2.1) ev
  obtain ⟨q1, q2, q3, q4⟩ := h.2.1 c b hc.1 hc.2 hb
  have e92 : ∀ x, x ≠ 23 → m9 88 x = rEv B ev 88 x := fun x q => by rw [h9.1 88 (by omega), wr_k _ _ _ _ q]
  refine RG_gen1 h hR.1 hR.2.1 hc.1 hc.2 hb ?_ (fun c' _ _ q => mv_ch eB h9 c' q) (NR_c hNE (e92 _ (by omega)) (e92 _ (by omega)) (e92 _ (by omega)) (by rw [h9.1 103 (by omega), wr_a _ _ _ (by omega)]) e2 e3) hAt (fun a a1 a2 a3 => e a (by omega) a2 (by omega) (by omega) (by omega) (by omega) a3) (fun j hj => k j (by omega) (by omega) (by omega) (by omega) (by omega) (by omega) (by omega) (by omega)) (fun a a1 a2 a3 a4 a5 => em a a1 a2 a3 a4 (by omega) (by omega) (by omega)) e10 e11
  refine ⟨CS_t (hR.1 c hc.1 hc.2) (q1.m (fun a a1 a2 a3 a4 => em a (by omega) (by omega) (by omega) (by omega) a3 (by omega) (by omega))) (chEq.of (fun a a1 a2 a3 => e a a1 (by omega) a3 (by omega) (by omega) (by omega) (by omega))), CV_t hcv (fun s s1 s2 => ⟨by rw [e 90 (by omega) (by omega) (by omega) (by omega) (by omega) (by omega) (by omega)], fun _ => h9.2.1 s s1 s2⟩), ?_, ?_⟩
  · rw [em b (by omega) (by omega) (by omega) (by omega) (by omega) (by omega) (by omega), e 99 (by omega) (by omega) (by omega) (by omega) (by omega) (by omega) (by omega), e 100 (by omega) (by omega) (by omega) (by omega) (by omega) (by omega) (by omega)]; exact q3
  · unfold KR; rw [h101, h102]; exact hKR
theorem nEv_ran {A m : pM} {n : Nat} (h : RG A m n) (hR : RI A) (ev : pEv) : 0 ≤ nEv m ev 2 1 ∧ nEv m ev 2 1 ≤ m 2 1 + ev.length := by
  have e := (NR_ev h.1 hR.2.2.1.1 hR.2.2.2.1 ev).1
  have t := rEv_tr A ev hR.2.2.1.1
  rw [e, h.1.1]; exact t
/-! a move -/
def PMv (A : pM) (c v : Int) (A2 : pM) : Prop := ∃ (z : Int) (m9 : pM), vMem (mvRes A c v).2.1 m9 c (mvRes A c v).2.2.1 (mvRes A c v).2.2.2.1 z ∧ wr m9 88 0 (mvRes A c v).2.2.2.2 = A2
theorem pf_mv (A : pM) (c mv : Int) : (mvRes A c mv).1 = pfR A c (aAt A c) mv ∧ (mvRes A c mv).2.2.1 = pfV A c (aAt A c) mv ∧ (mvRes A c mv).2.2.2.1 = pfE A c (aAt A c) mv ∧ (mvRes A c mv).2.2.2.2 = (if pfR A c (aAt A c) mv < 0 then pfR A c (aAt A c) mv else 0) ∧ (mvRes A c mv).2.1 = (if pfR A c (aAt A c) mv = 1 then rKeep A c (aNum A c 16) else A) := by
  have hs := aStuck_ran A c mv
  unfold mvRes pfR pfV pfE
  by_cases q : iRes A c (aAt A c) mv = 0
  · rw [if_pos q, if_pos q, if_pos q, if_pos q, List.append_nil]; exact ⟨rfl, rfl, rfl, rfl, rfl⟩
  · rw [if_neg q, if_neg q, if_neg q, if_neg q]
    by_cases w : aStuck A c mv ≠ 0
    · rw [if_pos w, if_pos w, if_pos w, if_pos w]
      refine ⟨rfl, rfl, rfl, ?_, ?_⟩
      · rw [if_pos (by omega)]
      · rw [if_neg (by omega)]
    · rw [if_neg w, if_neg w, if_neg w, if_neg w]; exact ⟨rfl, rfl, rfl, rfl, rfl⟩
theorem pfE_len {A : pM} {c : Int} (hs : 0 ≤ aNc A c ∧ aNc A c ≤ 40) (v : Int → Int) (mv : Int) : (pfE A c v mv).length ≤ 14000 := by
  have h1 := iEv_len v mv hs
  have h2 := dRes_len hs mv v
  unfold pfE; rw [List.length_append]
  have : ∀ l : pEv, l.length ≤ 13472 → (iEv A c v mv).length + l.length ≤ 14000 := fun l hl => by omega
  refine this _ ?_
  split
  · exact Nat.zero_le _
  · split
    · show 1 ≤ 13472; omega
    · exact h2
theorem pfV_ok {A : pM} {c : Int} (hp : pOk A c) {v : Int → Int} (hv : pOkv A c v) {mv : Int} (h0 : 0 ≤ mv) : pOkv A c (pfV A c v mv) := by
  unfold pfV; split
  · exact hv
  · rename_i q
    split
    · exact hv
    · exact dRes_ok hp h0 (fun w => iRes_kind q w) hv
theorem mv_BK {A : pM} (h : RI A) {c : Int} (hc : 0 ≤ c ∧ c ≤ 2) (mv : Int) : BK A (mvRes A c mv).2.1 c := by
  rw [(pf_mv A c mv).2.2.2.2]
  have hb := BK.rf h.2.1 hc
  split
  · exact hb.keep (num_ran (h.1 c hc.1 hc.2).ok)
  · exact hb
theorem RI_move {A A2 : pM} (h : RI A) (h0 : A 88 19 = 0) {c v : Int} (hc : 0 ≤ c ∧ c ≤ 2) (hv : 0 ≤ v) (hp : PMv A c v A2) : RI A2 := by
  obtain ⟨z, m9, p1, rfl⟩ := hp
  have pm := pf_mv A c v
  have hs := (h.1 c hc.1 hc.2).ok
  have hl := pfE_len hs.1.1 (aAt A c) v
  refine RI_st (RI_moved h hc (mv_BK h hc v) p1 ?_ ?_) _
  · rw [pm.2.1]; exact pfV_ok hs.1.2.2 hs.2.1 hv
  · rw [pm.2.2.1]; omega
set_option maxHeartbeats 4000000 in
set_option maxRecDepth 100000 in
theorem p_move (d : Nat) (hd : 5 ≤ d) (n : Nat) (ok : pO) (mem : pM) (hU : ClUp n ok) (hG : RG mem mem n) (hRI : RI mem) (c v : Int) (hc : -2147483648 ≤ c ∧ c ≤ 2147483647) (hv : -2147483648 ≤ v ∧ v ≤ 2147483647)  : PM mi_X9_move d [vr 1, vi c, vi v] n ok mem n (fun r ok' mem' => ok = ok' ∧ RE mem mem' ∧ ((¬ (0 ≤ c ∧ c ≤ 2) ∧ r = some (vi (-2)) ∧ RG (wr (wr mem 88 19 0) 88 0 (-2)) mem' n) ∨ ((0 ≤ c ∧ c ≤ 2) ∧ ¬ (0 ≤ v ∧ v ≤ 37) ∧ r = some (vi (-3)) ∧ RG (wr (wr mem 88 19 0) 88 0 (-3)) mem' n) ∨ ((0 ≤ c ∧ c ≤ 2) ∧ (0 ≤ v ∧ v ≤ 37) ∧ r = some (vi (mvRes (wr mem 88 19 0) c v).1) ∧ ∀ A2, PMv (wr mem 88 19 0) c v A2 → RG A2 mem' n))) := by
  obtain ⟨hP9, hN, ⟨hn4, ho0, ho1, ho2⟩, hCh, hDr, hM, ⟨hW80, hW82, hW84⟩, q86, q87, hSU, hn133⟩ := id hU
  obtain ⟨hN5, hN3⟩ := id hN
  obtain ⟨hM4, hM9⟩ := id hM
  obtain ⟨hW8, hWA, -, -⟩ := id hW80
  have hIO := hRI.1
  have hKO := hRI.2.1
  have ht9 := hRI.2.2.1
  have hq0 := hRI.2.2.2.1
  have hty := hRI.2.2.2.2.1
  have hNR := hG.1
  have hNR1 : mem 2 1 = mem 88 19 := hNR.1
  refine PM.of (by decide) (by decide) (Nat.le_refl _) (Nat.le_of_ble_eq_true rfl) ?_
  refine pw_aload_n 0 rfl dX9_move_0 rfl ?_
  refine pw_gR 0 2 dX9_move_1 cOk9 (by assumption) (by decide) kw_347 (by decide) rfl ?_
  refine pw_callV (d' := d - 1) (As := []) (ci := 5) dX9_move_4 ok_X5_emptyTrace kw_743 rfl rfl (Of.o (by assumption)) (by omega) rfl (Nat.le_of_ble_eq_true rfl) (n_emptyTrace (d - 1) (by omega) n ok mem hN) (Nat.le_refl _) (Or.inl rfl) (fun r ok1 m0 hq => ?_)
  obtain ⟨rfl, rfl, hm0⟩ := hq
  have hG0 : RG (wr mem 88 19 0) m0 n := by rw [← hm0]; exact RG_t0 hG hIO hKO
  have hRI0 := RI_t0 hRI
  have hRE0 : RE mem m0 := fun a a1 a2 => by rw [← hm0, wr_a _ _ _ (by omega)]
  have ht1 : m0 2 1 = 0 := by rw [← hm0, wr_s]
  have hA19 : wr mem 88 19 0 88 19 = 0 := wr_s _ _ _ _
  generalize hA0 : wr mem 88 19 0 = A0 at hG0 hRI0 hA19 ⊢
  clear hG hRI hIO hKO ht9 hq0 hty hNR hNR1
  have hG := hG0
  have hRI := hRI0
  have hIO := hRI0.1
  have hKO := hRI0.2.1
  have hty := hRI0.2.2.2.2.1
  refine pw_iload_n 1 rfl dX9_move_7 rfl ?_
  refine pw_callS (d' := d - 1) (As := [_]) dX9_move_8 ok_X9_isChest kw_403 (by omega) rfl (Nat.le_of_ble_eq_true rfl) (p_isChest (d - 1) (by omega) n ok _ _ (by omega)) (Nat.le_refl _) (Or.inl rfl) (fun r ok1 mem1 hq => ?_)
  obtain ⟨rfl, rfl, rfl⟩ := hq
  refine pw_if_ne 21 (by decide) dX9_move_11 (by split <;> omega) (fun c11 => ?_) (fun c11 => ?_)
  · skip
    rw [ne_eq, bz_n] at c11
    refine pw_iload_n 2 rfl dX9_move_21 rfl ?_
    refine pw_callS (d' := d - 1) (As := [_]) dX9_move_22 ok_X9_isMove kw_762 (by omega) rfl (Nat.le_of_ble_eq_true rfl) (p_isMove (d - 1) (by omega) n ok _ _ (by omega)) (Nat.le_refl _) (Or.inl rfl) (fun r ok1 mem1 hq => ?_)
    obtain ⟨rfl, rfl, rfl⟩ := hq
    refine pw_if_ne 35 (by decide) dX9_move_25 (by split <;> omega) (fun c25 => ?_) (fun c25 => ?_)
    · skip
      rw [ne_eq, bz_n] at c25
      obtain ⟨b, hbc⟩ : ∃ b : Nat, (b : Int) = 5 + 18 * c := ⟨(5 + 18 * c).toNat, by omega⟩
      have hC : ChUp n ok b := hCh b (by omega)
      have hok : ok 4 (c).toNat = true := by rcases (show c = 0 ∨ c = 1 ∨ c = 2 by omega) with e | e | e <;> (rw [e]; assumption)
      obtain ⟨hS, hV, hJ, hKR⟩ := hG.2.1 c b (by omega) (by omega) hbc
      have hI := hIO c (by omega) (by omega)
      have hOk := hI.ok
      obtain ⟨hR, hD, hSo⟩ := id hS
      obtain ⟨hC0, ⟨hC1, hC2, hC3, hC4, hC5, hC6, hC7⟩, hC8, ⟨hC9, hC10, hC11, hC12, hC13, hC14, hC15⟩, hC16, hC17, hb5, hb59⟩ := id hC
      refine pw_aload_n 0 rfl dX9_move_35 rfl ?_
      refine pw_gR 1 4 dX9_move_36 cOk9 (by assumption) (by decide) kw_348 (by decide) rfl ?_
      refine pw_iload_n 1 rfl dX9_move_39 rfl ?_
      refine pw_aaload (L := 3) dX9_move_40 (by omega) (by omega) rfl rfl (by decide) (by omega) (by omega) b hbc hok ?_
      refine pw_astore_n 3 rfl dX9_move_41 (by decide) ?_
      refine pw_aload_n 3 rfl dX9_move_42 rfl ?_
      refine pw_callV (d' := d - 1) (As := []) (ci := 0) dX9_move_43 ok_X0_number kw_789 rfl rfl (Of.o (by assumption)) (by omega) rfl (Nat.le_of_ble_eq_true rfl) (h_number (d - 1) (by omega) n ok m0 hN b hC A0 c (aAt A0 c) hI hS hV hOk.2.1) (Nat.le_refl _) (Or.inl rfl) (fun r ok1 mem1 hq => ?_)
      obtain ⟨rfl, rfl, rfl⟩ := hq
      rw [← aNum_v A0 c 16 (by omega)]
      have hnr := num_ran hOk
      refine pw_istore dX9_move_46 (by decide) ?_
      refine pw_aload_n 3 rfl dX9_move_48 rfl ?_
      refine pw_iload_n 2 rfl dX9_move_49 rfl ?_
      refine pw_callV (d' := d - 1) (As := [_]) (ci := 0) dX9_move_50 ok_X0_perform kw_803 rfl rfl (Of.o (by assumption)) (by omega) rfl (Nat.le_of_ble_eq_true rfl) (h_perform (d - 1) (by omega) n ok m0 hN b hC A0 c (aAt A0 c) hI hS hV hOk.2.1 v (by omega) hJ (by omega)) (Nat.le_refl _) (Or.inl rfl) (fun r ok1 mem1 hq => ?_)
      obtain ⟨rfl, rfl, hT, hcv⟩ := hq
      have hpr : -15 ≤ pfR A0 c (aAt A0 c) v ∧ pfR A0 c (aAt A0 c) v ≤ 1 := by
        have := aStuck_ran A0 c v
        unfold pfR; (repeat' split) <;> omega
      have hKR1 : KR A0 c mem1 b := by
        unfold KR; rw [hT.1 (b + 16) (by omega) (by omega) (by omega), hT.1 (b + 17) (by omega) (by omega) (by omega)]; exact hKR
      have hko := hKO c (by omega) (by omega)
      refine pw_istore dX9_move_53 (by decide) ?_
      refine pw_iload dX9_move_55 rfl ?_
      refine pw_iconst dX9_move_57 ?_
      refine pw_icmp_ne 70 (by decide) dX9_move_58 (by omega) (by omega) (fun c58 => ?_) (fun c58 => ?_)
      · skip
        refine pw_iload dX9_move_70 rfl ?_
        refine pw_if_ge 84 (by decide) dX9_move_72 (by omega) (fun c72 => ?_) (fun c72 => ?_)
        · skip
          refine pw_aload_n 0 rfl dX9_move_84 rfl ?_
          refine pw_iload dX9_move_85 rfl ?_
          refine pw_callV (d' := d - 1) (As := [_]) (ci := 9) dX9_move_87 ok_X9_answered kw_423 rfl rfl (Of.o (by assumption)) (by omega) rfl (Nat.le_of_ble_eq_true rfl) (p_answered (d - 1) (by omega) n ok _ hP9 _) (Nat.le_refl _) (Or.inl rfl) (fun r ok1 mem1 hq => ?_)
          obtain ⟨rfl, rfl, rfl⟩ := hq
          refine pw_iret dX9_move_90 rfl rfl ?_
          have pm := pf_mv A0 c v
          refine ⟨rfl, RE_w (fun a a1 a2 => ?_) _, Or.inr (Or.inr ⟨by omega, by omega, by rw [pm.1], fun A2 hA2 => ?_⟩)⟩
          · (rw [hT.1 a (by omega) (by omega) (by omega)]; exact hRE0 a a1 a2)
          · obtain ⟨z, m9, p1, rfl⟩ := hA2
            have hRm : RI m9 := by
              have hl := pfE_len hOk.1.1 (aAt A0 c) v
              refine RI_moved hRI (by omega) (mv_BK hRI (by omega) v) p1 ?_ ?_
              · rw [pm.2.1]; exact pfV_ok hOk.1.2.2 hOk.2.1 (by omega)
              · rw [pm.2.2.1]; omega
            have e1 : ∀ a, a ≠ 2 → a ≠ 3 → a ≠ b + 4 → a ≠ b + 16 → a ≠ b + 17 → mem1 a = m0 a := fun a a1 a2 a3 a4 a5 => by
              (exact hT.1 a a1 a2 a3)
            have e11 := e1 1 (by omega) (by omega) (by omega) (by omega) (by omega)
            have k9 : ∀ j, j = 28 ∨ j = 29 ∨ j = 30 ∨ j = 0 → m9 88 j = A0 88 j := fun j hj => (p1.f (by omega) (by omega) (by omega) (by omega)).trans (by rw [pm.2.2.2.2]; rw [if_neg (by omega)])
            have hst : (mvRes A0 c v).2.2.2.2 = 0 := by rw [pm.2.2.2.1]; first | rw [if_pos (by omega)] | rw [if_neg (by omega)]
            rw [hst]
            refine RG_st (RG_moved hG hRI (by omega) hbc (mv_BK hRI (by omega) v) p1 ?_ (fun a _ a2 a3 _ a5 a6 a7 => e1 a a2 a3 a5 a6 a7) (by rw [e11]) (by rw [e11]) ?_ ?_ ?_ (RAt_c hG.2.2.2.2.1 (k9 _ (by omega)) (k9 _ (by omega)) (k9 _ (by omega)) (k9 _ (by omega)) (by rw [e11]) (by rw [e11]) (by rw [e11]) (by rw [e11]))) hRm.1 hRm.2.1 _
            · rw [pm.2.2.2.2]; rw [if_neg (by omega)]; exact hKR1
            · rw [pm.2.2.1]; (exact hT.2.1)
            · rw [pm.2.2.1]; (exact hT.2.2)
            · rw [pm.2.1]; exact hcv
        · skip
          refine pw_aload_n 0 rfl dX9_move_75 rfl ?_
          refine pw_iload dX9_move_76 rfl ?_
          refine pw_callV (d' := d - 1) (As := [_]) (ci := 9) dX9_move_78 ok_X9_refused kw_406 rfl rfl (Of.o (by assumption)) (by omega) rfl (Nat.le_of_ble_eq_true rfl) (p_refused (d - 1) (by omega) n ok _ hP9 _ (by omega)) (Nat.le_refl _) (Or.inl rfl) (fun r ok1 mem1 hq => ?_)
          obtain ⟨rfl, rfl, rfl⟩ := hq
          refine pw_goto 90 (by decide) dX9_move_81 ?_
          refine pw_iret dX9_move_90 rfl rfl ?_
          have pm := pf_mv A0 c v
          refine ⟨rfl, RE_w (fun a a1 a2 => ?_) _, Or.inr (Or.inr ⟨by omega, by omega, by rw [pm.1], fun A2 hA2 => ?_⟩)⟩
          · (rw [hT.1 a (by omega) (by omega) (by omega)]; exact hRE0 a a1 a2)
          · obtain ⟨z, m9, p1, rfl⟩ := hA2
            have hRm : RI m9 := by
              have hl := pfE_len hOk.1.1 (aAt A0 c) v
              refine RI_moved hRI (by omega) (mv_BK hRI (by omega) v) p1 ?_ ?_
              · rw [pm.2.1]; exact pfV_ok hOk.1.2.2 hOk.2.1 (by omega)
              · rw [pm.2.2.1]; omega
            have e1 : ∀ a, a ≠ 2 → a ≠ 3 → a ≠ b + 4 → a ≠ b + 16 → a ≠ b + 17 → mem1 a = m0 a := fun a a1 a2 a3 a4 a5 => by
              (exact hT.1 a a1 a2 a3)
            have e11 := e1 1 (by omega) (by omega) (by omega) (by omega) (by omega)
            have k9 : ∀ j, j = 28 ∨ j = 29 ∨ j = 30 ∨ j = 0 → m9 88 j = A0 88 j := fun j hj => (p1.f (by omega) (by omega) (by omega) (by omega)).trans (by rw [pm.2.2.2.2]; rw [if_neg (by omega)])
            have hst : (mvRes A0 c v).2.2.2.2 = pfR A0 c (aAt A0 c) v := by rw [pm.2.2.2.1]; first | rw [if_pos (by omega)] | rw [if_neg (by omega)]
            rw [hst]
            refine RG_st (RG_moved hG hRI (by omega) hbc (mv_BK hRI (by omega) v) p1 ?_ (fun a _ a2 a3 _ a5 a6 a7 => e1 a a2 a3 a5 a6 a7) (by rw [e11]) (by rw [e11]) ?_ ?_ ?_ (RAt_c hG.2.2.2.2.1 (k9 _ (by omega)) (k9 _ (by omega)) (k9 _ (by omega)) (k9 _ (by omega)) (by rw [e11]) (by rw [e11]) (by rw [e11]) (by rw [e11]))) hRm.1 hRm.2.1 _
            · rw [pm.2.2.2.2]; rw [if_neg (by omega)]; exact hKR1
            · rw [pm.2.2.1]; (exact hT.2.1)
            · rw [pm.2.2.1]; (exact hT.2.2)
            · rw [pm.2.1]; exact hcv
      · skip
        refine pw_aload_n 3 rfl dX9_move_61 rfl ?_
        refine pw_gR 9 (b + 16) dX9_move_62 cOk0 (by assumption) (by decide) kw_250 (by decide) rfl ?_
        refine pw_iload dX9_move_65 rfl ?_
        refine pw_callV (d' := d - 1) (As := [_]) (ci := 3) dX9_move_67 ok_X3_push kw_808 rfl rfl (Of.o (by assumption)) (by omega) rfl (Nat.le_of_ble_eq_true rfl) (k_push (d - 1) (by omega) n ok mem1 b ⟨hC16, hC17⟩ _ (by omega) hKR1.2.1 (by rw [hKR1.1]; omega)) (Nat.le_refl _) (Or.inl rfl) (fun r ok1 mem2 hq => ?_)
        obtain ⟨rfl, rfl, rfl⟩ := hq
        refine pw_iload dX9_move_70 rfl ?_
        refine pw_if_ge 84 (by decide) dX9_move_72 (by omega) (fun c72 => ?_) (fun c72 => ?_)
        · skip
          refine pw_aload_n 0 rfl dX9_move_84 rfl ?_
          refine pw_iload dX9_move_85 rfl ?_
          refine pw_callV (d' := d - 1) (As := [_]) (ci := 9) dX9_move_87 ok_X9_answered kw_423 rfl rfl (Of.o (by assumption)) (by omega) rfl (Nat.le_of_ble_eq_true rfl) (p_answered (d - 1) (by omega) n ok _ hP9 _) (Nat.le_refl _) (Or.inl rfl) (fun r ok1 mem1 hq => ?_)
          obtain ⟨rfl, rfl, rfl⟩ := hq
          refine pw_iret dX9_move_90 rfl rfl ?_
          have pm := pf_mv A0 c v
          refine ⟨rfl, RE_w (fun a a1 a2 => ?_) _, Or.inr (Or.inr ⟨by omega, by omega, by rw [pm.1], fun A2 hA2 => ?_⟩)⟩
          · (rw [kpP_a _ _ _ _ (by omega) (by omega)]; rw [hT.1 a (by omega) (by omega) (by omega)]; exact hRE0 a a1 a2)
          · obtain ⟨z, m9, p1, rfl⟩ := hA2
            have hRm : RI m9 := by
              have hl := pfE_len hOk.1.1 (aAt A0 c) v
              refine RI_moved hRI (by omega) (mv_BK hRI (by omega) v) p1 ?_ ?_
              · rw [pm.2.1]; exact pfV_ok hOk.1.2.2 hOk.2.1 (by omega)
              · rw [pm.2.2.1]; omega
            have e1 : ∀ a, a ≠ 2 → a ≠ 3 → a ≠ b + 4 → a ≠ b + 16 → a ≠ b + 17 → (kpP mem1 b (aNum A0 c 16)) a = m0 a := fun a a1 a2 a3 a4 a5 => by
              (rw [kpP_a _ _ _ _ (by omega) (by omega)]; exact hT.1 a a1 a2 a3)
            have e11 := e1 1 (by omega) (by omega) (by omega) (by omega) (by omega)
            have k9 : ∀ j, j = 28 ∨ j = 29 ∨ j = 30 ∨ j = 0 → m9 88 j = A0 88 j := fun j hj => (p1.f (by omega) (by omega) (by omega) (by omega)).trans (by rw [pm.2.2.2.2]; rw [if_pos (by omega), rKeep_a (by omega) (by omega)])
            have hst : (mvRes A0 c v).2.2.2.2 = 0 := by rw [pm.2.2.2.1]; first | rw [if_pos (by omega)] | rw [if_neg (by omega)]
            rw [hst]
            refine RG_st (RG_moved hG hRI (by omega) hbc (mv_BK hRI (by omega) v) p1 ?_ (fun a _ a2 a3 _ a5 a6 a7 => e1 a a2 a3 a5 a6 a7) (by rw [e11]) (by rw [e11]) ?_ ?_ ?_ (RAt_c hG.2.2.2.2.1 (k9 _ (by omega)) (k9 _ (by omega)) (k9 _ (by omega)) (k9 _ (by omega)) (by rw [e11]) (by rw [e11]) (by rw [e11]) (by rw [e11]))) hRm.1 hRm.2.1 _
            · rw [pm.2.2.2.2]; rw [if_pos (by omega)]; exact KR_push hKR1 (by omega) _
            · rw [pm.2.2.1]; (rw [kpP_a _ _ _ _ (by omega) (by omega)]; exact hT.2.1)
            · rw [pm.2.2.1]; (rw [kpP_a _ _ _ _ (by omega) (by omega)]; exact hT.2.2)
            · rw [pm.2.1]; exact hcv.m (kpP_a _ _ _ _ (by omega) (by omega))
        · skip
          exfalso; omega
    · skip
      rw [bz_0] at c25
      refine pw_aload_n 0 rfl dX9_move_28 rfl ?_
      refine pw_bipush dX9_move_29 (by decide) ?_
      refine pw_callV (d' := d - 1) (As := [_]) (ci := 9) dX9_move_31 ok_X9_refused kw_406 rfl rfl (Of.o (by assumption)) (by omega) rfl (Nat.le_of_ble_eq_true rfl) (p_refused (d - 1) (by omega) n ok _ hP9 _ (by omega)) (Nat.le_refl _) (Or.inl rfl) (fun r ok1 mem1 hq => ?_)
      obtain ⟨rfl, rfl, rfl⟩ := hq
      refine pw_iret dX9_move_34 rfl rfl ?_
      exact ⟨rfl, RE_w hRE0 _, Or.inr (Or.inl ⟨c11, c25, rfl, RG_st hG hIO hKO _⟩)⟩
  · skip
    rw [bz_0] at c11
    refine pw_aload_n 0 rfl dX9_move_14 rfl ?_
    refine pw_bipush dX9_move_15 (by decide) ?_
    refine pw_callV (d' := d - 1) (As := [_]) (ci := 9) dX9_move_17 ok_X9_refused kw_406 rfl rfl (Of.o (by assumption)) (by omega) rfl (Nat.le_of_ble_eq_true rfl) (p_refused (d - 1) (by omega) n ok _ hP9 _ (by omega)) (Nat.le_refl _) (Or.inl rfl) (fun r ok1 mem1 hq => ?_)
    obtain ⟨rfl, rfl, rfl⟩ := hq
    refine pw_iret dX9_move_20 rfl rfl ?_
    exact ⟨rfl, RE_w hRE0 _, Or.inl ⟨c11, rfl, RG_st hG hIO hKO _⟩⟩
