/-! ===== the class: begin, take more ===== -/
def SRG (S m : pM) : Prop := SRm S m ∧ m 123 15 = S 88 36 ∧ RDx (Ex S (S 88 35) 0) m ∧ m 131 2 ≤ 12 * S 88 35 ∧ ((m 123 12 = 0 ∧ FA S m (S 88 34)) ∨ (m 123 12 ≠ 0 ∧ S 88 35 = S 88 34 ∧ SpF (rdR S) (S 111) (S 88 34) (m 129)))
theorem SRB.g {S m : pM} (h : SRB S m) (h12 : m 123 12 = 0) : SRG S m := ⟨h.1, h.2.2.1, h.2.2.2.1, h.2.2.2.2, Or.inl ⟨h12, h.2.1⟩⟩
theorem SRG.b {S m : pM} (h : SRG S m) (hn : S 88 35 < S 88 34) : SRB S m ∧ m 123 12 = 0 := by
  rcases h.2.2.2.2 with z | z
  · exact ⟨⟨h.1, z.2, h.2.1, h.2.2.1, h.2.2.2.1⟩, z.1⟩
  · omega
set_option maxHeartbeats 4000000 in
set_option maxRecDepth 100000 in
theorem y_takeMore (d : Nat) (hd : 6 ≤ d) (n : Nat) (ok : pO) (mem : pM) (hN : NUp n ok) (b : Nat) (hC : ChUp n ok b) (A : pM) (c : Int) (v : Int → Int) (hI : cIn A c) (hS : CS A c mem b) (hV : CV A c mem b v) (hv : pOkv A c v) (hU : SUp n ok) (hch : mem 123 8 = (b : Int)) (S : pM) (hGI : GI A c S) (hSB : SRG S mem) (hdg : dgOk A c) (k : Int) (hk0 : 0 ≤ k ∧ k ≤ 1024) (ht : 0 ≤ mem 2 1 ∧ mem 2 1 ≤ 600000000) : PM mi_X7_takeMore d [vr 123, vi k] n ok mem n (fun r ok' mem' => r = none ∧ ok = ok' ∧ SRG (goB A c k.toNat S) mem' ∧ CV A c mem' b v ∧ FrK b mem mem') := by
  obtain ⟨hN5, hN3⟩ := id hN
  obtain ⟨hC0, ⟨hC1, hC2, hC3, hC4, hC5, hC6, hC7⟩, hC8, ⟨hC9, hC10, hC11, hC12, hC13, hC14, hC15⟩, hC16, hC17, hb5, hb59⟩ := id hC
  obtain ⟨hR, hD, hSo⟩ := id hS
  have hOk := hI.ok
  obtain ⟨hT7, ⟨q124, q125, q126, q127, q128, q129, q130⟩, hT6, q132, q133⟩ := id hU
  refine PM.of (by decide) (by decide) (Nat.le_refl _) (Nat.le_of_ble_eq_true rfl) ?_
  refine pw_aload_n 0 rfl dX7_takeMore_0 rfl ?_
  refine pw_gV 8 8 b rfl dX7_takeMore_1 cOk7 (by assumption) (by decide) kw_565 (by decide) hch ?_
  refine pw_callV (d' := d - 1) (As := []) (ci := 0) dX7_takeMore_4 ok_X0_number kw_646 rfl rfl (Of.o (by assumption)) (by omega) rfl (Nat.le_of_ble_eq_true rfl) (h_number (d - 1) (by omega) n ok mem hN b hC A c v hI hS hV hv) (Nat.le_refl _) (Or.inl rfl) (fun r ok1 mem1 hq => ?_)
  obtain ⟨rfl, rfl, rfl⟩ := hq
  have hnr := numV_ran hOk.1.2.2 hv 16 (by omega)
  have hpw := hOk.2.2
  refine pw_istore_n 2 rfl dX7_takeMore_7 (by decide) ?_
  refine pw_iconst dX7_takeMore_8 ?_
  refine pw_istore_n 3 rfl dX7_takeMore_9 (by decide) ?_
  have lp10 : ∀ (kz : Nat) (i : Nat) (S2 m1 : pM) (v2 : Int → Int), k - (i : Int) < (kz : Int) → ((i : Int) ≤ k) → (goB A c k.toNat S = goB A c (k.toNat - i) S2) → (GI A c S2) → (SRG S2 m1) → (FrK b mem m1) → (CV A c m1 b v2) → (pOkv A c v2) → PW mi_X7_takeMore d n n (fun r ok' mem' => r = none ∧ ok = ok' ∧ SRG (goB A c k.toNat S) mem' ∧ CV A c mem' b v ∧ FrK b mem mem') 10 [(0, vr 123), (1, vi k), (2, vi (numV A c v 16)), (3, vi (i : Int))] [] n ok m1 := by
    intro kz
    induction kz with
    | zero =>
      intro i S2 m1 v2 hk h1 hG hGI2 hB2 hF2 hV2 hv2
      exact absurd hk (by omega)
    | succ kz ih =>
      intro i S2 m1 v2 hk h1 hG hGI2 hB2 hF2 hV2 hv2
      have hch1 : m1 123 8 = (b : Int) := by rw [hF2.2 8 (by omega) (by omega) (by omega)]; exact hch
      have hS1 := hF2.cs hb59 hS
      refine pw_iload_n 3 rfl dX7_takeMore_10 rfl ?_
      refine pw_iload_n 1 rfl dX7_takeMore_11 rfl ?_
      refine pw_icmp_ge 36 (by decide) dX7_takeMore_12 (by omega) (by omega) (fun c12 => ?_) (fun c12 => ?_)
      · skip
        have hE : goB A c k.toNat S = S2 := by rw [hG, show k.toNat - i = 0 by omega]; rfl
        refine pw_aload_n 0 rfl dX7_takeMore_36 rfl ?_
        refine pw_gV 8 8 b rfl dX7_takeMore_37 cOk7 (by assumption) (by decide) kw_565 (by decide) hch1 ?_
        refine pw_iload_n 2 rfl dX7_takeMore_40 rfl ?_
        refine pw_callV (d' := d - 1) (As := [_]) (ci := 0) dX7_takeMore_41 ok_X0_standAt kw_691 rfl rfl (Of.o (by assumption)) (by omega) rfl (Nat.le_of_ble_eq_true rfl) (h_standAt (d - 1) (by omega) n ok m1 hN b hC A c v2 hI hS1 hV2 hv2 (numV A c v 16) (by omega)) (Nat.le_refl _) (Or.inl rfl) (fun r9 ok1 m4 hq => ?_)
        obtain ⟨rfl, rfl, hF4, hV4⟩ := hq
        have g4 : ∀ a, a ≠ b + 4 → m4 a = m1 a := hF4
        refine pw_vret dX7_takeMore_44 rfl rfl ?_
        rw [hE]
        obtain ⟨b1, b2, b3, b4, b5⟩ := hB2
        refine ⟨rfl, rfl, ⟨b1.m (by rw [g4 _ (by omega)]) (by rw [g4 _ (by omega)]) (fun a q1 q2 => g4 a (by omega)), by rw [g4 _ (by omega)]; exact b2, b3.m (by rw [g4 _ (by omega)]) (g4 _ (by omega)) (g4 _ (by omega)), by rw [g4 _ (by omega)]; exact b4, by unfold FA at b5 ⊢; rw [g4 _ (by omega), g4 _ (by omega)]; exact b5⟩, hV4.k (setV_num hOk.1.2.2 v2 hv), hF2.tr (FrK.s hF4 hb59)⟩
      · skip
        refine pw_aload_n 0 rfl dX7_takeMore_15 rfl ?_
        refine pw_gI 14 14 rfl dX7_takeMore_16 cOk7 (by assumption) (by decide) kw_575 (by decide) (fun r16 => ?_)
        try simp (disch := omega) only [wr_s, wr_a, wr_k] at r16 ⊢
        rw [hB2.1.2.1] at r16 ⊢
        refine pw_aload_n 0 rfl dX7_takeMore_19 rfl ?_
        refine pw_gI 13 13 rfl dX7_takeMore_20 cOk7 (by assumption) (by decide) kw_573 (by decide) (fun r20 => ?_)
        try simp (disch := omega) only [wr_s, wr_a, wr_k] at r20 ⊢
        rw [hB2.1.1] at r20 ⊢
        refine pw_icmp_ge 36 (by decide) dX7_takeMore_23 (by omega) (by omega) (fun c23 => ?_) (fun c23 => ?_)
        · skip
          have hE : goB A c k.toNat S = S2 := by rw [hG]; exact goB_done _ _ _ _ (by omega)
          refine pw_aload_n 0 rfl dX7_takeMore_36 rfl ?_
          refine pw_gV 8 8 b rfl dX7_takeMore_37 cOk7 (by assumption) (by decide) kw_565 (by decide) hch1 ?_
          refine pw_iload_n 2 rfl dX7_takeMore_40 rfl ?_
          refine pw_callV (d' := d - 1) (As := [_]) (ci := 0) dX7_takeMore_41 ok_X0_standAt kw_691 rfl rfl (Of.o (by assumption)) (by omega) rfl (Nat.le_of_ble_eq_true rfl) (h_standAt (d - 1) (by omega) n ok m1 hN b hC A c v2 hI hS1 hV2 hv2 (numV A c v 16) (by omega)) (Nat.le_refl _) (Or.inl rfl) (fun r9 ok1 m4 hq => ?_)
          obtain ⟨rfl, rfl, hF4, hV4⟩ := hq
          have g4 : ∀ a, a ≠ b + 4 → m4 a = m1 a := hF4
          refine pw_vret dX7_takeMore_44 rfl rfl ?_
          rw [hE]
          obtain ⟨b1, b2, b3, b4, b5⟩ := hB2
          refine ⟨rfl, rfl, ⟨b1.m (by rw [g4 _ (by omega)]) (by rw [g4 _ (by omega)]) (fun a q1 q2 => g4 a (by omega)), by rw [g4 _ (by omega)]; exact b2, b3.m (by rw [g4 _ (by omega)]) (g4 _ (by omega)) (g4 _ (by omega)), by rw [g4 _ (by omega)]; exact b4, by unfold FA at b5 ⊢; rw [g4 _ (by omega), g4 _ (by omega)]; exact b5⟩, hV4.k (setV_num hOk.1.2.2 v2 hv), hF2.tr (FrK.s hF4 hb59)⟩
        · skip
          refine pw_aload_n 0 rfl dX7_takeMore_26 rfl ?_
          refine pw_callV (d' := d - 1) (As := []) (ci := 7) dX7_takeMore_27 ok_X7_takeNext kw_687 rfl rfl (Of.o (by assumption)) (by omega) rfl (Nat.le_of_ble_eq_true rfl) (y_takeNext (d - 1) (by omega) n ok m1 hN b hC A c v2 hI hS1 hV2 hv2 hU hch1 S2 hGI2 (hB2.b (by omega)).1 hdg (by omega) (by rw [hF2.1 2 (by omega) (by omega) (by omega)]; omega)) (Nat.le_refl _) (Or.inl rfl) (fun r9 ok1 m3 hq => ?_)
          obtain ⟨rfl, rfl, hB3, ⟨v3, hV3, hv3⟩, hF3⟩ := hq
          refine pw_iinc dX7_takeMore_30 rfl (by decide) ?_
          refine pw_goto 10 (by decide) dX7_takeMore_33 ?_
          have eK : k.toNat - i = (k.toNat - (i + 1)) + 1 := by omega
          exact pw_locs _ rfl (ih (i + 1) (tkB A c S2) m3 v3 (by omega) (by omega) (by rw [hG, eK, goB_succ, if_pos (by omega)]) (GI_tk hOk.1 hOk.2.2 hGI2 (by omega)).1 (hB3.g (by rw [hF3.2 12 (by omega) (by omega) (by omega)]; exact (hB2.b (by omega)).2)) (hF2.tr hF3) hV3 hv3)
  exact pw_locs _ rfl (lp10 (k.toNat + 1) 0 S mem v (by omega) (by omega) rfl hGI hSB (FrK.rf b mem) hV hv)
set_option maxHeartbeats 4000000 in
set_option maxRecDepth 100000 in
theorem y_begin (d : Nat) (hd : 5 ≤ d) (n : Nat) (ok : pO) (mem : pM) (hN : NUp n ok) (b : Nat) (hC : ChUp n ok b) (A : pM) (c : Int) (hI : cIn A c) (hS : CS A c mem b) (hV : CV A c mem b (aAt A c)) (hU : SUp n ok) (w : Int) (hw : -1 ≤ w ∧ w ≤ 2) (hn9 : n ≤ 133) (ht : 0 ≤ mem 2 1 ∧ mem 2 1 ≤ 600000000) : PM mi_X7_begin d [vr 123, vr b, vi w] n ok mem n (fun r ok' mem' => r = none ∧ ok = ok' ∧ SRB (bgB A c) mem' ∧ (∀ a, (a < 123 ∨ 133 < a) → mem' a = mem a) ∧ mem' 123 8 = (b : Int) ∧ mem' 123 9 = w ∧ mem' 123 10 = 1 ∧ mem' 123 11 = 0 ∧ mem' 123 12 = 0) := by
  obtain ⟨hN5, hN3⟩ := id hN
  obtain ⟨hC0, ⟨hC1, hC2, hC3, hC4, hC5, hC6, hC7⟩, hC8, ⟨hC9, hC10, hC11, hC12, hC13, hC14, hC15⟩, hC16, hC17, hb5, hb59⟩ := id hC
  obtain ⟨hR, hD, hSo⟩ := id hS
  have hOk := hI.ok
  obtain ⟨hT7, ⟨q124, q125, q126, q127, q128, q129, q130⟩, hT6, q132, q133⟩ := id hU
  have hv := hOk.2.1
  have hbn : b ≤ n := hC0.1.2.1
  have hn3 : n ≤ 133 := hn9
  refine PM.of (by decide) (by decide) (Nat.le_refl _) (Nat.le_of_ble_eq_true rfl) ?_
  refine pw_aload_n 0 rfl dX7_begin_0 rfl ?_
  refine pw_aload_n 1 rfl dX7_begin_1 rfl ?_
  refine pw_pV 8 8 rfl dX7_begin_2 cOk7 (by assumption) (by decide) kw_565 rfl (Or.inl ⟨_, rfl⟩) (by decide) (by omega) hbn hn3 ?_
  refine pw_aload_n 0 rfl dX7_begin_5 rfl ?_
  refine pw_iload_n 2 rfl dX7_begin_6 rfl ?_
  refine pw_pI 9 9 rfl dX7_begin_7 cOk7 (by assumption) (by decide) kw_566 rfl rfl (by decide) (by omega) ?_
  refine pw_aload_n 0 rfl dX7_begin_10 rfl ?_
  refine pw_iconst dX7_begin_11 ?_
  refine pw_pZ 10 10 rfl dX7_begin_12 cOk7 (by assumption) (by decide) kw_568 rfl rfl (by decide) (by omega) ?_
  refine pw_aload_n 0 rfl dX7_begin_15 rfl ?_
  refine pw_iconst dX7_begin_16 ?_
  refine pw_pZ 11 11 rfl dX7_begin_17 cOk7 (by assumption) (by decide) kw_570 rfl rfl (by decide) (by omega) ?_
  refine pw_aload_n 0 rfl dX7_begin_20 rfl ?_
  refine pw_iconst dX7_begin_21 ?_
  refine pw_pZ 12 12 rfl dX7_begin_22 cOk7 (by assumption) (by decide) kw_572 rfl rfl (by decide) (by omega) ?_
  refine pw_aload_n 0 rfl dX7_begin_25 rfl ?_
  refine pw_iconst dX7_begin_26 ?_
  refine pw_pI 13 13 rfl dX7_begin_27 cOk7 (by assumption) (by decide) kw_573 rfl rfl (by decide) (by omega) ?_
  refine pw_aload_n 0 rfl dX7_begin_30 rfl ?_
  refine pw_iconst dX7_begin_31 ?_
  refine pw_pI 14 14 rfl dX7_begin_32 cOk7 (by assumption) (by decide) kw_575 rfl rfl (by decide) (by omega) ?_
  refine pw_aload_n 0 rfl dX7_begin_35 rfl ?_
  refine pw_iconst dX7_begin_36 ?_
  refine pw_pI 15 15 rfl dX7_begin_37 cOk7 (by assumption) (by decide) kw_576 rfl rfl (by decide) (by omega) ?_
  obtain ⟨m0, em0⟩ : ∃ y, y = wr (wr (wr (wr (wr (wr (wr (wr mem 123 8 (b : Int)) 123 9 w) 123 10 1) 123 11 0) 123 12 0) 123 13 0) 123 14 0) 123 15 (-1) := ⟨_, rfl⟩
  rw [← em0]
  have g0 : ∀ a, a ≠ 123 → m0 a = mem a := fun a ha => by rw [em0]; simp (disch := omega) only [wr_a]
  have f8 : m0 123 8 = (b : Int) := by rw [em0]; simp (disch := omega) only [wr_k, wr_s]
  have f9 : m0 123 9 = w := by rw [em0]; simp (disch := omega) only [wr_k, wr_s]
  have f10 : m0 123 10 = 1 := by rw [em0]; simp (disch := omega) only [wr_k, wr_s]
  have f11 : m0 123 11 = 0 := by rw [em0]; simp (disch := omega) only [wr_k, wr_s]
  have f12 : m0 123 12 = 0 := by rw [em0]; simp (disch := omega) only [wr_k, wr_s]
  have f13 : m0 123 13 = 0 := by rw [em0]; simp (disch := omega) only [wr_k, wr_s]
  have f14 : m0 123 14 = 0 := by rw [em0]; simp (disch := omega) only [wr_k, wr_s]
  have f15 : m0 123 15 = -1 := by rw [em0]; simp (disch := omega) only [wr_k, wr_s]
  refine pw_aload_n 0 rfl dX7_begin_40 rfl ?_
  refine pw_gR 4 128 dX7_begin_41 cOk7 (by assumption) (by decide) kw_560 (by decide) rfl ?_
  refine pw_iconst dX7_begin_44 ?_
  refine pw_callS (d' := d - 1) (As := [_, _]) dX7_begin_45 ok_J7_fill_53178 kw_638 (by omega) rfl (Nat.le_of_ble_eq_true rfl) (j_fill (d - 1) (by omega) n ok m0 128 1024 q128 (-1) (by omega)) (Nat.le_refl _) (Or.inl rfl) (fun r9 ok1 m1 hq => ?_)
  obtain ⟨rfl, rfl, em1⟩ := hq
  have g1 : ∀ a, a ≠ 128 → m1 a = m0 a := fun a ha => by rw [← em1]; exact fiM_a _ _ _ _ ha
  have o1 : ∀ x, 0 ≤ x → x < 1024 → m1 128 x = -1 := fun x x1 x2 => by rw [← em1]; unfold fiM; rw [if_pos ⟨rfl, x1, by omega⟩]
  refine pw_aload_n 0 rfl dX7_begin_48 rfl ?_
  refine pw_gR 7 131 dX7_begin_49 cOk7 (by assumption) (by decide) kw_564 (by decide) rfl ?_
  refine pw_callV (d' := d - 1) (As := []) (ci := 6) dX7_begin_52 ok_X6_letGo kw_641 rfl rfl (Of.o (by assumption)) (by omega) rfl (Nat.le_of_ble_eq_true rfl) (x_letGo (d - 1) (by omega) n ok m1 hU) (Nat.le_refl _) (Or.inl rfl) (fun r9 ok1 m2 hq => ?_)
  obtain ⟨rfl, rfl, em2⟩ := hq
  have g2 : ∀ a, a ≠ 131 → a ≠ 132 → m2 a = m1 a := fun a ha hb => by rw [← em2, fiM_a _ _ _ _ hb]; exact wr_a _ _ _ ha
  have r2 : m2 131 2 = 0 := by rw [← em2, fiM_a _ _ _ _ (by omega), wr_s]
  have l2 : ∀ x, 0 ≤ x → x < 1024 → m2 132 x = -1 := fun x x1 x2 => by rw [← em2]; unfold fiM; rw [if_pos ⟨rfl, x1, by omega⟩]
  have k2 : ∀ k, m2 123 k = m0 123 k := fun k => by rw [g2 _ (by omega) (by omega), g1 _ (by omega)]
  have z2 : ∀ a, (a < 123 ∨ 133 < a) → m2 a = mem a := fun a ha => by rw [g2 _ (by omega) (by omega), g1 _ (by omega), g0 _ (by omega)]
  have hS2 : CS A c m2 b := hS.m (fun a q1 q2 _ _ => z2 a (by omega))
  have hV2 : CV A c m2 b (aAt A c) := hV.m (z2 _ (by omega))
  have f8q := bgQ_88 A c
  have hQ : SRm (bgQ A c) m2 := by
    refine ⟨?_, ?_, fun o o1 o2 => ?_, fun x x1 x2 => ?_⟩
    · rw [k2, f13, f8q.2.2.2.1]
    · rw [k2, f14, f8q.2.2.2.2.1]
    · rw [f8q.2.2.2.1] at o2; omega
    · rw [g2 _ (by omega) (by omega), o1 x x1 x2, if_pos]
      unfold bgQ; rw [wr_a _ _ _ (by omega)]; unfold fiM; rw [if_pos ⟨rfl, x1, by omega⟩]
  have hnum : numV A c (aAt A c) 16 = (aNum A c 16) := (aNum_v A c 16 (by omega)).symm
  have hnr := num_ran hOk
  refine pw_aload_n 0 rfl dX7_begin_55 rfl ?_
  refine pw_aload_n 0 rfl dX7_begin_56 rfl ?_
  refine pw_gV 8 8 b rfl dX7_begin_57 cOk7 (by assumption) (by decide) kw_565 (by decide) (by rw [k2]; exact f8) ?_
  refine pw_callV (d' := d - 1) (As := []) (ci := 0) dX7_begin_60 ok_X0_number kw_646 rfl rfl (Of.o (by assumption)) (by omega) rfl (Nat.le_of_ble_eq_true rfl) (h_number (d - 1) (by omega) n ok m2 hN b hC A c (aAt A c) hI hS2 hV2 hv) (Nat.le_refl _) (Or.inl rfl) (fun r ok1 mem1 hq => ?_)
  obtain ⟨rfl, rfl, rfl⟩ := hq
  rw [hnum]
  refine pw_iconst dX7_begin_63 ?_
  refine pw_iconst dX7_begin_64 ?_
  refine pw_callV (d' := d - 1) (As := [_, _, _]) (ci := 7) dX7_begin_65 ok_X7_comeTo kw_650 rfl rfl (Of.o (by assumption)) (by omega) rfl (Nat.le_of_ble_eq_true rfl) (y_comeTo (d - 1) (by omega) n ok m2 hU (bgQ A c) hQ (bgQ_i A c).1.1 (aNum A c 16) (-1) (-1) 0 (oRes A c (aAt A c)) (by omega) (by omega) (by omega) (Or.inl ⟨rfl, rfl⟩)) (Nat.le_refl _) (Or.inl rfl) (fun r9 ok1 m3 hq => ?_)
  obtain ⟨rfl, rfl, hm3, hF3⟩ := hq
  have k3 : ∀ k, k ≠ 13 → m3 123 k = m0 123 k := fun k hk => by rw [hF3.2 k hk, k2]
  have z3 : ∀ a, (a < 123 ∨ 133 < a) → m3 a = mem a := fun a ha => by rw [hF3.1 a (by omega), z2 a ha]
  have hS3 : CS A c m3 b := hS.m (fun a q1 q2 _ _ => z3 a (by omega))
  have hV3 : CV A c m3 b (aAt A c) := hV.m (z3 _ (by omega))
  refine pw_aload_n 0 rfl dX7_begin_68 rfl ?_
  refine pw_iconst dX7_begin_69 ?_
  refine pw_callV (d' := d - 1) (As := [_]) (ci := 7) dX7_begin_70 ok_X7_lookForOpen kw_654 rfl rfl (Of.o (by assumption)) (by omega) rfl (Nat.le_of_ble_eq_true rfl) (y_look (d - 1) (by omega) n ok m3 hN b hC A c (aAt A c) hI hS3 hV3 hv hU (by rw [k3 8 (by omega)]; exact f8) 0 (by omega) (by rw [z3 2 (by omega)]; omega)) (Nat.le_refl _) (Or.inl rfl) (fun r9 ok1 m4 hq => ?_)
  obtain ⟨rfl, rfl, em4⟩ := hq
  have hlf := lfM_v m3 0 (oRes A c (aAt A c))
  rw [em4] at hlf
  refine pw_vret dX7_begin_73 rfl rfl ?_
  have hb9 := bgQ_9 hOk
  have ecm : (cmB (bgQ A c) (aNum A c 16) 0 (-1) (-1) (oRes A c (aAt A c))) = cmN (bgQ A c) (aNum A c 16) 0 (-1) (-1) (oRes A c (aAt A c)) := by unfold cmB; rw [if_neg (fun z => z hb9)]
  have wv := cmN_v (bgQ A c) (aNum A c 16) 0 (-1) (-1) (oRes A c (aAt A c))
  rw [← ecm] at wv
  have eB : bgB A c = wr (cmB (bgQ A c) (aNum A c 16) 0 (-1) (-1) (oRes A c (aAt A c))) 88 3 0 := by unfold bgB; rfl
  have ea : ∀ a, a ≠ 88 → bgB A c a = (cmB (bgQ A c) (aNum A c 16) 0 (-1) (-1) (oRes A c (aAt A c))) a := fun a ha => by rw [eB]; exact wr_a _ _ _ ha
  have ek : ∀ k, k ≠ 3 → bgB A c 88 k = (cmB (bgQ A c) (aNum A c 16) 0 (-1) (-1) (oRes A c (aAt A c))) 88 k := fun k hk => by rw [eB]; exact wr_k _ _ _ _ hk
  have e34 : bgB A c 88 34 = 1 := bgB_34 hOk
  have e35 : bgB A c 88 35 = 0 := (bgB_v A c).2.2.2.2.1
  have e111 : bgB A c 111 0 = (oRes A c (aAt A c)) := by rw [ea 111 (by omega), wv.2.2.2.2.2.1, f8q.2.2.2.1, if_pos rfl]
  have z4 : ∀ a, (a < 123 ∨ 133 < a) → m4 a = mem a := fun a ha => by rw [hlf.1 a (by omega) (by omega), z3 a ha]
  have k4 : ∀ k, k ≠ 13 → k ≠ 15 → m4 123 k = m0 123 k := fun k h1 h2 => by rw [hlf.2.1 k h2, k3 k h1]
  refine ⟨rfl, rfl, ⟨?_, fun o o1 o2 => ?_, ?_, ?_, ?_⟩, z4, by rw [k4 8 (by omega) (by omega)]; exact f8, by rw [k4 9 (by omega) (by omega)]; exact f9, by rw [k4 10 (by omega) (by omega)]; exact f10, by rw [k4 11 (by omega) (by omega)]; exact f11, by rw [k4 12 (by omega) (by omega)]; exact f12⟩
  · exact SRm.S (SRm.m hm3 (hlf.2.1 13 (by omega)) (hlf.2.1 14 (by omega)) (fun a q1 q2 => hlf.1 a (by omega) (by omega))) (ek 34 (by omega)) (ek 35 (by omega)) (fun a ha => ea a (by omega))
  · rw [e34] at o2
    have eo : o = 0 := by omega
    subst eo
    rw [hlf.2.2.1, e111]
  · rw [hlf.2.2.2.2, k3 15 (by omega), f15, ek 36 (by omega), wv.2.2.2.2.2.2.2.1, f8q.2.2.2.1, f8q.2.2.2.2.2.1]
  · rw [e35]
    refine ⟨fun _ => 0, ?_⟩
    rw [hlf.1 131 (by omega) (by omega), hlf.1 132 (by omega) (by omega), hF3.1 131 (by omega), hF3.1 132 (by omega), r2]
    refine ⟨by omega, fun i i1 i2 => by omega, ⟨fun k q1 q2 => by rw [l2 k q1 q2]; exact PE_0 _ _, fun j j1 j2 => by omega⟩, fun i j i1 ij j2 => by omega, fun f t q => ?_⟩
    obtain ⟨q1, q2, q3, i, i1, i2, i3, i4⟩ := q
    omega
  · rw [e35, hlf.1 131 (by omega) (by omega), hF3.1 131 (by omega), r2]; omega
