/-! ===== the class: a chest written ===== -/
def WUp (n : Nat) (ok : pO) (w : Nat) : Prop := Of n ok 8 w ∧ Ar n (w + 1) 432 ∧ 80 ≤ w ∧ w ≤ 84
def WS (m : pM) (w : Nat) (l : List Int) : Prop := LW m (w + 1) l ∧ m w 1 = (l.length : Int)
def wdM (m : pM) (w : Nat) (x : Int) : pM := wr (wr m (w + 1) (m w 1) x) w 1 (m w 1 + 1)
theorem WS_w {m : pM} {w : Nat} {l : List Int} (h : WS m w l) (x : Int) : WS (wdM m w x) w (l ++ [x]) := by
  unfold wdM
  refine ⟨LW_m (LW_w h.1 h.2 x) (wr_a _ _ _ (by omega)), ?_⟩
  rw [wr_s, h.2, List.length_append]; rfl
def Fw (w : Nat) (m m1 : pM) : Prop := ∀ a, a ≠ w → a ≠ w + 1 → m1 a = m a
theorem Fw.w {w : Nat} {m m1 : pM} (h : Fw w m m1) (x : Int) : Fw w m (wdM m1 w x) := fun a h1 h2 => by unfold wdM; rw [wr_a _ _ _ h1, wr_a _ _ _ h2]; exact h a h1 h2
set_option maxHeartbeats 4000000 in
set_option maxRecDepth 100000 in
theorem w_add (d : Nat) (hd : 0 ≤ d) (n : Nat) (ok : pO) (mem : pM) (w : Nat) (hW : WUp n ok w) (x : Int) (hx : -2147483648 ≤ x ∧ x ≤ 2147483647) (hl : 0 ≤ mem w 1 ∧ mem w 1 < 432) : PM mi_X8_add d [vr w, vi x] n ok mem n (fun r ok' mem' => r = none ∧ ok = ok' ∧ wdM mem w x = mem') := by
  obtain ⟨hW8, hWA, hw80, hw84⟩ := id hW
  refine PM.of (by decide) (by decide) (Nat.le_refl _) (Nat.le_of_ble_eq_true rfl) ?_
  refine pw_aload_n 0 rfl dX8_add_0 rfl ?_
  refine pw_gI 1 1 rfl dX8_add_1 cOk8 (by assumption) (by decide) kw_340 (by decide) (fun r1 => ?_)
  refine pw_sipush dX8_add_4 (by decide) ?_
  refine pw_icmp_ge 30 (by decide) dX8_add_7 (by omega) (by omega) (fun c7 => ?_) (fun c7 => ?_)
  · skip
    exfalso; omega
  · skip
    refine pw_aload_n 0 rfl dX8_add_10 rfl ?_
    refine pw_gR 0 (w + 1) dX8_add_11 cOk8 (by assumption) (by decide) kw_338 (by decide) rfl ?_
    refine pw_aload_n 0 rfl dX8_add_14 rfl ?_
    refine pw_gI 1 1 rfl dX8_add_15 cOk8 (by assumption) (by decide) kw_340 (by decide) (fun r15 => ?_)
    refine pw_iload_n 1 rfl dX8_add_18 rfl ?_
    refine pw_iastore dX8_add_19 (by assumption) (by omega) (by omega) (by omega) ?_
    refine pw_aload_n 0 rfl dX8_add_20 rfl ?_
    refine pw_dup dX8_add_21 rfl ?_
    refine pw_gI 1 1 rfl dX8_add_22 cOk8 (by assumption) (by decide) kw_340 (by decide) (fun r22 => ?_)
    try simp (disch := omega) only [wr_s, wr_a, wr_k] at r22 ⊢
    refine pw_iconst dX8_add_25 ?_
    refine pw_iadd dX8_add_26 ?_
    refine pw_pI 1 1 rfl dX8_add_27 cOk8 (by assumption) (by decide) kw_340 rfl rfl (by decide) (by omega) ?_
    refine pw_vret dX8_add_30 rfl rfl ?_
    exact ⟨rfl, rfl, rfl⟩
set_option maxHeartbeats 4000000 in
set_option maxRecDepth 100000 in
theorem w_row (d : Nat) (hd : 1 ≤ d) (n : Nat) (ok : pO) (mem : pM) (hN : NUp n ok) (b : Nat) (hC : ChUp n ok b) (A : pM) (c : Int) (hI : cIn A c) (hS : CS A c mem b) (hV : CV A c mem b (aAt A c)) (w : Nat) (hW : WUp n ok w) (r : Int) (hr : 0 ≤ r ∧ r ≤ 3) (l : List Int) (hL : WS mem w l) (hl17 : l.length + 17 ≤ 432) : PM mi_X8_writeRow d [vr w, vr b, vi r] n ok mem n (fun r0 ok' mem' => r0 = none ∧ ok = ok' ∧ WS mem' w (l ++ [(if (A 89 (4 * c + r)) = -1 then 255 else (A 89 (4 * c + r)))] ++ rowB A c r (A 89 (4 * c + r)).toNat) ∧ Fw w mem mem') := by
  obtain ⟨hN5, hN3⟩ := id hN
  obtain ⟨hC0, ⟨hC1, hC2, hC3, hC4, hC5, hC6, hC7⟩, hC8, ⟨hC9, hC10, hC11, hC12, hC13, hC14, hC15⟩, hC16, hC17, hb5, hb59⟩ := id hC
  obtain ⟨hR, hD, hSo⟩ := id hS
  have hOk := hI.ok
  obtain ⟨hW8, hWA, hw80, hw84⟩ := id hW
  refine PM.of (by decide) (by decide) (Nat.le_refl _) (Nat.le_of_ble_eq_true rfl) ?_
  refine pw_aload_n 1 rfl dX8_writeRow_0 rfl ?_
  refine pw_gR 1 (b + 1) dX8_writeRow_1 cOk0 (by assumption) (by decide) kw_229 (by decide) rfl ?_
  refine pw_iload_n 2 rfl dX8_writeRow_4 rfl ?_
  refine pw_iaload dX8_writeRow_5 (by assumption) (by omega) (by omega) (fun r5 => ?_)
  have e1 := hR.1 r (by omega) (by omega)
  rw [e1] at r5 ⊢
  have hrr := hI.1 r (by omega) (by omega)
  have hF0 : Fw w mem mem := fun _ _ _ => rfl
  have hL1 := hL.2
  refine pw_istore_n 3 rfl dX8_writeRow_6 (by decide) ?_
  refine pw_aload_n 0 rfl dX8_writeRow_7 rfl ?_
  refine pw_iload_n 3 rfl dX8_writeRow_8 rfl ?_
  refine pw_iconst dX8_writeRow_9 ?_
  refine pw_icmp_ne 19 (by decide) dX8_writeRow_10 (by omega) (by omega) (fun c10 => ?_) (fun c10 => ?_)
  · skip
    refine pw_iload_n 3 rfl dX8_writeRow_19 rfl ?_
    refine pw_callV (d' := d - 1) (As := [_]) (ci := 8) dX8_writeRow_20 ok_X8_add kw_1000 rfl rfl (Of.o (by assumption)) (by omega) rfl (Nat.le_of_ble_eq_true rfl) (w_add (d - 1) (by omega) n ok mem w hW _ (by omega) (by omega)) (Nat.le_refl _) (Or.inl rfl) (fun r9 ok1 m1 hq => ?_)
    obtain ⟨rfl, rfl, em1⟩ := hq
    have hS1 := WS_w hL ((A 89 (4 * c + r)))
    rw [em1] at hS1
    have hF1 := Fw.w hF0 ((A 89 (4 * c + r)))
    rw [em1] at hF1
    have hn1 := hS1.2
    rw [List.length_append] at hn1
    simp only [List.length_cons, List.length_nil] at hn1
    have eH : (if (A 89 (4 * c + r)) = -1 then 255 else (A 89 (4 * c + r))) = (A 89 (4 * c + r)) := if_neg c10
    rw [← eH] at hS1
    refine pw_iload_n 2 rfl dX8_writeRow_23 rfl ?_
    refine pw_iconst dX8_writeRow_24 ?_
    refine pw_imul dX8_writeRow_25 ?_
    refine pw_istore dX8_writeRow_26 (by decide) ?_
    have lp28 : ∀ (kz : Nat) (i : Nat) (j : Int) (l2 : List Int) (m2 : pM), (A 89 (4 * c + r)).toNat - (i : Int) < (kz : Int) → (j = r * 4 + i) → (i ≤ (A 89 (4 * c + r)).toNat) → (l2 = l ++ [(if (A 89 (4 * c + r)) = -1 then 255 else (A 89 (4 * c + r)))] ++ rowB A c r i) → (WS m2 w l2) → (Fw w mem m2) → PW mi_X8_writeRow d n n (fun r0 ok' mem' => r0 = none ∧ ok = ok' ∧ WS mem' w (l ++ [(if (A 89 (4 * c + r)) = -1 then 255 else (A 89 (4 * c + r)))] ++ rowB A c r (A 89 (4 * c + r)).toNat) ∧ Fw w mem mem') 28 [(0, vr w), (1, vr b), (2, vi r), (3, vi (A 89 (4 * c + r))), (4, vi j)] [] n ok m2 := by
      intro kz
      induction kz with
      | zero =>
        intro i j l2 m2 hk hj hi hl2 hS2 hF2
        exact absurd hk (by omega)
      | succ kz ih =>
        intro i j l2 m2 hk hj hi hl2 hS2 hF2
        have hn2 := hS2.2
        have hlen2 : l2.length ≤ l.length + 1 + 4 * i := by
          have := rowB_len A c r i
          rw [hl2, List.length_append, List.length_append]; simp only [List.length_cons, List.length_nil]; omega
        have g2 : m2 (b + 2) = mem (b + 2) := hF2 _ (by omega) (by omega)
        refine pw_iload dX8_writeRow_28 rfl ?_
        refine pw_iload_n 2 rfl dX8_writeRow_30 rfl ?_
        refine pw_iconst dX8_writeRow_31 ?_
        refine pw_imul dX8_writeRow_32 ?_
        refine pw_iload_n 3 rfl dX8_writeRow_33 rfl ?_
        refine pw_iadd dX8_writeRow_34 ?_
        refine pw_icmp_ge 109 (by decide) dX8_writeRow_35 (by omega) (by omega) (fun c35 => ?_) (fun c35 => ?_)
        · skip
          skip
          refine pw_vret dX8_writeRow_109 rfl rfl ?_
          have e9 : i = (A 89 (4 * c + r)).toNat := by omega
          rw [← e9, ← hl2]
          exact ⟨rfl, rfl, hS2, hF2⟩
        · skip
          have hss : 0 ≤ j ∧ j ≤ 15 := by omega
          have hjx : 16 * c + j = (16 * c + 4 * r + (i : Int)) := by omega
          have hsq := hI.2.1 j hss.1 hss.2
          have hcr := hR.2.1 j hss.1 hss.2
          have e4 := hV j hss.1 hss.2
          rw [hjx] at hsq hcr
          have e2 := hcr.1
          refine pw_aload_n 1 rfl dX8_writeRow_38 rfl ?_
          refine pw_gR 2 (b + 2) dX8_writeRow_39 cOk0 (by assumption) (by decide) kw_232 (by decide) rfl ?_
          refine pw_iload dX8_writeRow_42 rfl ?_
          refine pw_iaload dX8_writeRow_44 (by assumption) (by omega) (by omega) (fun r44 => ?_)
          try simp (disch := omega) only [wr_s, wr_a, wr_k] at r44 ⊢
          rw [g2, e2] at r44 ⊢
          refine pw_iconst dX8_writeRow_45 ?_
          refine pw_icmp_ne 57 (by decide) dX8_writeRow_46 (by omega) (by omega) (fun c46 => ?_) (fun c46 => ?_)
          · skip
            have hkn : aKind A c j ≠ -1 := by show A 90 (16 * c + j) ≠ -1; rw [hjx]; exact c46
            have e3 : mem (b + 3) j = A 91 (16 * c + 4 * r + (i : Int)) := by rw [hcr.2.1]; unfold eSp; rw [if_neg hkn]; show A 91 (16 * c + j) = _; rw [hjx]
            have e4b : mem (b + 4) j = A 92 (16 * c + 4 * r + (i : Int)) := by rw [e4]; unfold eAv; rw [if_neg hkn]; show A 92 (16 * c + j) = _; rw [hjx]
            have e5 := hcr.2.2 c46
            refine pw_aload_n 0 rfl dX8_writeRow_57 rfl ?_
            refine pw_aload_n 1 rfl dX8_writeRow_58 rfl ?_
            refine pw_gR 2 (b + 2) dX8_writeRow_59 cOk0 (by assumption) (by decide) kw_232 (by decide) rfl ?_
            refine pw_iload dX8_writeRow_62 rfl ?_
            refine pw_iaload dX8_writeRow_64 (by assumption) (by omega) (by omega) (fun r64 => ?_)
            try simp (disch := omega) only [wr_s, wr_a, wr_k] at r64 ⊢
            rw [g2, e2] at r64 ⊢
            refine pw_iconst dX8_writeRow_65 ?_
            refine pw_iadd dX8_writeRow_66 ?_
            refine pw_callV (d' := d - 1) (As := [_]) (ci := 8) dX8_writeRow_67 ok_X8_add kw_1000 rfl rfl (Of.o (by assumption)) (by omega) rfl (Nat.le_of_ble_eq_true rfl) (w_add (d - 1) (by omega) n ok m2 w hW _ (by omega) (by omega)) (Nat.le_refl _) (Or.inl rfl) (fun r9 ok1 m3 hq => ?_)
            obtain ⟨rfl, rfl, em3⟩ := hq
            have hS3 := WS_w hS2 (A 90 (16 * c + 4 * r + (i : Int)) + 1)
            rw [em3] at hS3
            have hF3 := Fw.w hF2 (A 90 (16 * c + 4 * r + (i : Int)) + 1)
            rw [em3] at hF3
            have hn3 := hS3.2
            rw [List.length_append] at hn3
            simp only [List.length_cons, List.length_nil] at hn3
            refine pw_aload_n 0 rfl dX8_writeRow_70 rfl ?_
            refine pw_aload_n 1 rfl dX8_writeRow_71 rfl ?_
            refine pw_gR 3 (b + 3) dX8_writeRow_72 cOk0 (by assumption) (by decide) kw_236 (by decide) rfl ?_
            refine pw_iload dX8_writeRow_75 rfl ?_
            refine pw_iaload dX8_writeRow_77 (by assumption) (by omega) (by omega) (fun r77 => ?_)
            try simp (disch := omega) only [wr_s, wr_a, wr_k] at r77 ⊢
            rw [hF3 _ (by omega) (by omega), e3] at r77 ⊢
            refine pw_callV (d' := d - 1) (As := [_]) (ci := 8) dX8_writeRow_78 ok_X8_add kw_1000 rfl rfl (Of.o (by assumption)) (by omega) rfl (Nat.le_of_ble_eq_true rfl) (w_add (d - 1) (by omega) n ok m3 w hW _ (by omega) (by omega)) (Nat.le_refl _) (Or.inl rfl) (fun r9 ok1 m4 hq => ?_)
            obtain ⟨rfl, rfl, em4⟩ := hq
            have hS4 := WS_w hS3 (A 91 (16 * c + 4 * r + (i : Int)))
            rw [em4] at hS4
            have hF4 := Fw.w hF3 (A 91 (16 * c + 4 * r + (i : Int)))
            rw [em4] at hF4
            have hn4 := hS4.2
            rw [List.length_append] at hn4
            simp only [List.length_append, List.length_cons, List.length_nil] at hn4
            refine pw_aload_n 0 rfl dX8_writeRow_81 rfl ?_
            refine pw_aload_n 1 rfl dX8_writeRow_82 rfl ?_
            refine pw_gR 4 (b + 4) dX8_writeRow_83 cOk0 (by assumption) (by decide) kw_239 (by decide) rfl ?_
            refine pw_iload dX8_writeRow_86 rfl ?_
            refine pw_iaload dX8_writeRow_88 (by assumption) (by omega) (by omega) (fun r88 => ?_)
            try simp (disch := omega) only [wr_s, wr_a, wr_k] at r88 ⊢
            rw [hF4 _ (by omega) (by omega), e4b] at r88 ⊢
            refine pw_callV (d' := d - 1) (As := [_]) (ci := 8) dX8_writeRow_89 ok_X8_add kw_1000 rfl rfl (Of.o (by assumption)) (by omega) rfl (Nat.le_of_ble_eq_true rfl) (w_add (d - 1) (by omega) n ok m4 w hW _ (by omega) (by omega)) (Nat.le_refl _) (Or.inl rfl) (fun r9 ok1 m5 hq => ?_)
            obtain ⟨rfl, rfl, em5⟩ := hq
            have hS5 := WS_w hS4 (A 92 (16 * c + 4 * r + (i : Int)))
            rw [em5] at hS5
            have hF5 := Fw.w hF4 (A 92 (16 * c + 4 * r + (i : Int)))
            rw [em5] at hF5
            have hn5 := hS5.2
            rw [List.length_append] at hn5
            simp only [List.length_append, List.length_cons, List.length_nil] at hn5
            refine pw_aload_n 0 rfl dX8_writeRow_92 rfl ?_
            refine pw_aload_n 1 rfl dX8_writeRow_93 rfl ?_
            refine pw_gR 5 (b + 5) dX8_writeRow_94 cOk0 (by assumption) (by decide) kw_242 (by decide) rfl ?_
            refine pw_iload dX8_writeRow_97 rfl ?_
            refine pw_iaload dX8_writeRow_99 (by assumption) (by omega) (by omega) (fun r99 => ?_)
            try simp (disch := omega) only [wr_s, wr_a, wr_k] at r99 ⊢
            rw [hF5 _ (by omega) (by omega), e5] at r99 ⊢
            refine pw_callV (d' := d - 1) (As := [_]) (ci := 8) dX8_writeRow_100 ok_X8_add kw_1000 rfl rfl (Of.o (by assumption)) (by omega) rfl (Nat.le_of_ble_eq_true rfl) (w_add (d - 1) (by omega) n ok m5 w hW _ (by omega) (by omega)) (Nat.le_refl _) (Or.inl rfl) (fun r9 ok1 m6 hq => ?_)
            obtain ⟨rfl, rfl, em6⟩ := hq
            have hS6 := WS_w hS5 (A 93 (16 * c + 4 * r + (i : Int)))
            rw [em6] at hS6
            have hF6 := Fw.w hF5 (A 93 (16 * c + 4 * r + (i : Int)))
            rw [em6] at hF6
            have hn6 := hS6.2
            rw [List.length_append] at hn6
            simp only [List.length_append, List.length_cons, List.length_nil] at hn6
            refine pw_iinc dX8_writeRow_103 rfl (by decide) ?_
            refine pw_goto 28 (by decide) dX8_writeRow_106 ?_
            exact pw_locs _ rfl (ih (i + 1) (j + 1) _ m6 (by omega) (by omega) (by omega) (by show _ = l ++ _ ++ (rowB A c r i ++ _); rw [hl2, if_neg c46]; simp only [List.append_assoc, List.cons_append, List.nil_append]) hS6 hF6)
          · skip
            refine pw_aload_n 0 rfl dX8_writeRow_49 rfl ?_
            refine pw_iconst dX8_writeRow_50 ?_
            refine pw_callV (d' := d - 1) (As := [_]) (ci := 8) dX8_writeRow_51 ok_X8_add kw_1000 rfl rfl (Of.o (by assumption)) (by omega) rfl (Nat.le_of_ble_eq_true rfl) (w_add (d - 1) (by omega) n ok m2 w hW _ (by omega) (by omega)) (Nat.le_refl _) (Or.inl rfl) (fun r9 ok1 m3 hq => ?_)
            obtain ⟨rfl, rfl, em3⟩ := hq
            have hS3 := WS_w hS2 (0)
            rw [em3] at hS3
            have hF3 := Fw.w hF2 (0)
            rw [em3] at hF3
            have hn3 := hS3.2
            rw [List.length_append] at hn3
            simp only [List.length_cons, List.length_nil] at hn3
            refine pw_goto 103 (by decide) dX8_writeRow_54 ?_
            refine pw_iinc dX8_writeRow_103 rfl (by decide) ?_
            refine pw_goto 28 (by decide) dX8_writeRow_106 ?_
            exact pw_locs _ rfl (ih (i + 1) (j + 1) _ m3 (by omega) (by omega) (by omega) (by show _ = l ++ _ ++ (rowB A c r i ++ _); rw [hl2, if_pos (show A 90 (16 * c + 4 * r + (i : Int)) = -1 by omega), List.append_assoc]) hS3 hF3)
    exact pw_locs _ rfl (lp28 5 0 (r * 4) _ m1 (by omega) (by omega) (by omega) (by show _ = _ ++ []; rw [List.append_nil]) hS1 hF1)
  · skip
    refine pw_sipush dX8_writeRow_13 (by decide) ?_
    refine pw_goto 20 (by decide) dX8_writeRow_16 ?_
    refine pw_callV (d' := d - 1) (As := [_]) (ci := 8) dX8_writeRow_20 ok_X8_add kw_1000 rfl rfl (Of.o (by assumption)) (by omega) rfl (Nat.le_of_ble_eq_true rfl) (w_add (d - 1) (by omega) n ok mem w hW _ (by omega) (by omega)) (Nat.le_refl _) (Or.inl rfl) (fun r9 ok1 m1 hq => ?_)
    obtain ⟨rfl, rfl, em1⟩ := hq
    have hS1 := WS_w hL (255)
    rw [em1] at hS1
    have hF1 := Fw.w hF0 (255)
    rw [em1] at hF1
    have hn1 := hS1.2
    rw [List.length_append] at hn1
    simp only [List.length_cons, List.length_nil] at hn1
    have eH : (if (A 89 (4 * c + r)) = -1 then 255 else (A 89 (4 * c + r))) = 255 := if_pos (by omega)
    rw [← eH] at hS1
    refine pw_iload_n 2 rfl dX8_writeRow_23 rfl ?_
    refine pw_iconst dX8_writeRow_24 ?_
    refine pw_imul dX8_writeRow_25 ?_
    refine pw_istore dX8_writeRow_26 (by decide) ?_
    have lp28 : ∀ (kz : Nat) (i : Nat) (j : Int) (l2 : List Int) (m2 : pM), (A 89 (4 * c + r)).toNat - (i : Int) < (kz : Int) → (j = r * 4 + i) → (i ≤ (A 89 (4 * c + r)).toNat) → (l2 = l ++ [(if (A 89 (4 * c + r)) = -1 then 255 else (A 89 (4 * c + r)))] ++ rowB A c r i) → (WS m2 w l2) → (Fw w mem m2) → PW mi_X8_writeRow d n n (fun r0 ok' mem' => r0 = none ∧ ok = ok' ∧ WS mem' w (l ++ [(if (A 89 (4 * c + r)) = -1 then 255 else (A 89 (4 * c + r)))] ++ rowB A c r (A 89 (4 * c + r)).toNat) ∧ Fw w mem mem') 28 [(0, vr w), (1, vr b), (2, vi r), (3, vi (A 89 (4 * c + r))), (4, vi j)] [] n ok m2 := by
      intro kz
      induction kz with
      | zero =>
        intro i j l2 m2 hk hj hi hl2 hS2 hF2
        exact absurd hk (by omega)
      | succ kz ih =>
        intro i j l2 m2 hk hj hi hl2 hS2 hF2
        have hn2 := hS2.2
        have hlen2 : l2.length ≤ l.length + 1 + 4 * i := by
          have := rowB_len A c r i
          rw [hl2, List.length_append, List.length_append]; simp only [List.length_cons, List.length_nil]; omega
        have g2 : m2 (b + 2) = mem (b + 2) := hF2 _ (by omega) (by omega)
        refine pw_iload dX8_writeRow_28 rfl ?_
        refine pw_iload_n 2 rfl dX8_writeRow_30 rfl ?_
        refine pw_iconst dX8_writeRow_31 ?_
        refine pw_imul dX8_writeRow_32 ?_
        refine pw_iload_n 3 rfl dX8_writeRow_33 rfl ?_
        refine pw_iadd dX8_writeRow_34 ?_
        refine pw_icmp_ge 109 (by decide) dX8_writeRow_35 (by omega) (by omega) (fun c35 => ?_) (fun c35 => ?_)
        · skip
          skip
          refine pw_vret dX8_writeRow_109 rfl rfl ?_
          have e9 : i = (A 89 (4 * c + r)).toNat := by omega
          rw [← e9, ← hl2]
          exact ⟨rfl, rfl, hS2, hF2⟩
        · skip
          have hss : 0 ≤ j ∧ j ≤ 15 := by omega
          have hjx : 16 * c + j = (16 * c + 4 * r + (i : Int)) := by omega
          have hsq := hI.2.1 j hss.1 hss.2
          have hcr := hR.2.1 j hss.1 hss.2
          have e4 := hV j hss.1 hss.2
          rw [hjx] at hsq hcr
          have e2 := hcr.1
          refine pw_aload_n 1 rfl dX8_writeRow_38 rfl ?_
          refine pw_gR 2 (b + 2) dX8_writeRow_39 cOk0 (by assumption) (by decide) kw_232 (by decide) rfl ?_
          refine pw_iload dX8_writeRow_42 rfl ?_
          refine pw_iaload dX8_writeRow_44 (by assumption) (by omega) (by omega) (fun r44 => ?_)
          try simp (disch := omega) only [wr_s, wr_a, wr_k] at r44 ⊢
          rw [g2, e2] at r44 ⊢
          refine pw_iconst dX8_writeRow_45 ?_
          refine pw_icmp_ne 57 (by decide) dX8_writeRow_46 (by omega) (by omega) (fun c46 => ?_) (fun c46 => ?_)
          · skip
            have hkn : aKind A c j ≠ -1 := by show A 90 (16 * c + j) ≠ -1; rw [hjx]; exact c46
            have e3 : mem (b + 3) j = A 91 (16 * c + 4 * r + (i : Int)) := by rw [hcr.2.1]; unfold eSp; rw [if_neg hkn]; show A 91 (16 * c + j) = _; rw [hjx]
            have e4b : mem (b + 4) j = A 92 (16 * c + 4 * r + (i : Int)) := by rw [e4]; unfold eAv; rw [if_neg hkn]; show A 92 (16 * c + j) = _; rw [hjx]
            have e5 := hcr.2.2 c46
            refine pw_aload_n 0 rfl dX8_writeRow_57 rfl ?_
            refine pw_aload_n 1 rfl dX8_writeRow_58 rfl ?_
            refine pw_gR 2 (b + 2) dX8_writeRow_59 cOk0 (by assumption) (by decide) kw_232 (by decide) rfl ?_
            refine pw_iload dX8_writeRow_62 rfl ?_
            refine pw_iaload dX8_writeRow_64 (by assumption) (by omega) (by omega) (fun r64 => ?_)
            try simp (disch := omega) only [wr_s, wr_a, wr_k] at r64 ⊢
            rw [g2, e2] at r64 ⊢
            refine pw_iconst dX8_writeRow_65 ?_
            refine pw_iadd dX8_writeRow_66 ?_
            refine pw_callV (d' := d - 1) (As := [_]) (ci := 8) dX8_writeRow_67 ok_X8_add kw_1000 rfl rfl (Of.o (by assumption)) (by omega) rfl (Nat.le_of_ble_eq_true rfl) (w_add (d - 1) (by omega) n ok m2 w hW _ (by omega) (by omega)) (Nat.le_refl _) (Or.inl rfl) (fun r9 ok1 m3 hq => ?_)
            obtain ⟨rfl, rfl, em3⟩ := hq
            have hS3 := WS_w hS2 (A 90 (16 * c + 4 * r + (i : Int)) + 1)
            rw [em3] at hS3
            have hF3 := Fw.w hF2 (A 90 (16 * c + 4 * r + (i : Int)) + 1)
            rw [em3] at hF3
            have hn3 := hS3.2
            rw [List.length_append] at hn3
            simp only [List.length_cons, List.length_nil] at hn3
            refine pw_aload_n 0 rfl dX8_writeRow_70 rfl ?_
            refine pw_aload_n 1 rfl dX8_writeRow_71 rfl ?_
            refine pw_gR 3 (b + 3) dX8_writeRow_72 cOk0 (by assumption) (by decide) kw_236 (by decide) rfl ?_
            refine pw_iload dX8_writeRow_75 rfl ?_
            refine pw_iaload dX8_writeRow_77 (by assumption) (by omega) (by omega) (fun r77 => ?_)
            try simp (disch := omega) only [wr_s, wr_a, wr_k] at r77 ⊢
            rw [hF3 _ (by omega) (by omega), e3] at r77 ⊢
            refine pw_callV (d' := d - 1) (As := [_]) (ci := 8) dX8_writeRow_78 ok_X8_add kw_1000 rfl rfl (Of.o (by assumption)) (by omega) rfl (Nat.le_of_ble_eq_true rfl) (w_add (d - 1) (by omega) n ok m3 w hW _ (by omega) (by omega)) (Nat.le_refl _) (Or.inl rfl) (fun r9 ok1 m4 hq => ?_)
            obtain ⟨rfl, rfl, em4⟩ := hq
            have hS4 := WS_w hS3 (A 91 (16 * c + 4 * r + (i : Int)))
            rw [em4] at hS4
            have hF4 := Fw.w hF3 (A 91 (16 * c + 4 * r + (i : Int)))
            rw [em4] at hF4
            have hn4 := hS4.2
            rw [List.length_append] at hn4
            simp only [List.length_append, List.length_cons, List.length_nil] at hn4
            refine pw_aload_n 0 rfl dX8_writeRow_81 rfl ?_
            refine pw_aload_n 1 rfl dX8_writeRow_82 rfl ?_
            refine pw_gR 4 (b + 4) dX8_writeRow_83 cOk0 (by assumption) (by decide) kw_239 (by decide) rfl ?_
            refine pw_iload dX8_writeRow_86 rfl ?_
            refine pw_iaload dX8_writeRow_88 (by assumption) (by omega) (by omega) (fun r88 => ?_)
            try simp (disch := omega) only [wr_s, wr_a, wr_k] at r88 ⊢
            rw [hF4 _ (by omega) (by omega), e4b] at r88 ⊢
            refine pw_callV (d' := d - 1) (As := [_]) (ci := 8) dX8_writeRow_89 ok_X8_add kw_1000 rfl rfl (Of.o (by assumption)) (by omega) rfl (Nat.le_of_ble_eq_true rfl) (w_add (d - 1) (by omega) n ok m4 w hW _ (by omega) (by omega)) (Nat.le_refl _) (Or.inl rfl) (fun r9 ok1 m5 hq => ?_)
            obtain ⟨rfl, rfl, em5⟩ := hq
            have hS5 := WS_w hS4 (A 92 (16 * c + 4 * r + (i : Int)))
            rw [em5] at hS5
            have hF5 := Fw.w hF4 (A 92 (16 * c + 4 * r + (i : Int)))
            rw [em5] at hF5
            have hn5 := hS5.2
            rw [List.length_append] at hn5
            simp only [List.length_append, List.length_cons, List.length_nil] at hn5
            refine pw_aload_n 0 rfl dX8_writeRow_92 rfl ?_
            refine pw_aload_n 1 rfl dX8_writeRow_93 rfl ?_
            refine pw_gR 5 (b + 5) dX8_writeRow_94 cOk0 (by assumption) (by decide) kw_242 (by decide) rfl ?_
            refine pw_iload dX8_writeRow_97 rfl ?_
            refine pw_iaload dX8_writeRow_99 (by assumption) (by omega) (by omega) (fun r99 => ?_)
            try simp (disch := omega) only [wr_s, wr_a, wr_k] at r99 ⊢
            rw [hF5 _ (by omega) (by omega), e5] at r99 ⊢
            refine pw_callV (d' := d - 1) (As := [_]) (ci := 8) dX8_writeRow_100 ok_X8_add kw_1000 rfl rfl (Of.o (by assumption)) (by omega) rfl (Nat.le_of_ble_eq_true rfl) (w_add (d - 1) (by omega) n ok m5 w hW _ (by omega) (by omega)) (Nat.le_refl _) (Or.inl rfl) (fun r9 ok1 m6 hq => ?_)
            obtain ⟨rfl, rfl, em6⟩ := hq
            have hS6 := WS_w hS5 (A 93 (16 * c + 4 * r + (i : Int)))
            rw [em6] at hS6
            have hF6 := Fw.w hF5 (A 93 (16 * c + 4 * r + (i : Int)))
            rw [em6] at hF6
            have hn6 := hS6.2
            rw [List.length_append] at hn6
            simp only [List.length_append, List.length_cons, List.length_nil] at hn6
            refine pw_iinc dX8_writeRow_103 rfl (by decide) ?_
            refine pw_goto 28 (by decide) dX8_writeRow_106 ?_
            exact pw_locs _ rfl (ih (i + 1) (j + 1) _ m6 (by omega) (by omega) (by omega) (by show _ = l ++ _ ++ (rowB A c r i ++ _); rw [hl2, if_neg c46]; simp only [List.append_assoc, List.cons_append, List.nil_append]) hS6 hF6)
          · skip
            refine pw_aload_n 0 rfl dX8_writeRow_49 rfl ?_
            refine pw_iconst dX8_writeRow_50 ?_
            refine pw_callV (d' := d - 1) (As := [_]) (ci := 8) dX8_writeRow_51 ok_X8_add kw_1000 rfl rfl (Of.o (by assumption)) (by omega) rfl (Nat.le_of_ble_eq_true rfl) (w_add (d - 1) (by omega) n ok m2 w hW _ (by omega) (by omega)) (Nat.le_refl _) (Or.inl rfl) (fun r9 ok1 m3 hq => ?_)
            obtain ⟨rfl, rfl, em3⟩ := hq
            have hS3 := WS_w hS2 (0)
            rw [em3] at hS3
            have hF3 := Fw.w hF2 (0)
            rw [em3] at hF3
            have hn3 := hS3.2
            rw [List.length_append] at hn3
            simp only [List.length_cons, List.length_nil] at hn3
            refine pw_goto 103 (by decide) dX8_writeRow_54 ?_
            refine pw_iinc dX8_writeRow_103 rfl (by decide) ?_
            refine pw_goto 28 (by decide) dX8_writeRow_106 ?_
            exact pw_locs _ rfl (ih (i + 1) (j + 1) _ m3 (by omega) (by omega) (by omega) (by show _ = l ++ _ ++ (rowB A c r i ++ _); rw [hl2, if_pos (show A 90 (16 * c + 4 * r + (i : Int)) = -1 by omega), List.append_assoc]) hS3 hF3)
    exact pw_locs _ rfl (lp28 5 0 (r * 4) _ m1 (by omega) (by omega) (by omega) (by show _ = _ ++ []; rw [List.append_nil]) hS1 hF1)
set_option maxHeartbeats 4000000 in
set_option maxRecDepth 100000 in
theorem w_cond (d : Nat) (hd : 1 ≤ d) (n : Nat) (ok : pO) (mem : pM) (hN : NUp n ok) (b : Nat) (hC : ChUp n ok b) (A : pM) (c : Int) (hI : cIn A c) (hS : CS A c mem b) (hV : CV A c mem b (aAt A c)) (w : Nat) (hW : WUp n ok w) (k : Int) (hk : 0 ≤ k ∧ k < A 94 c) (l : List Int) (hL : WS mem w l) (hl9 : l.length + 9 ≤ 432) : PM mi_X8_writeCondition d [vr w, vr (b + 8), vi k] n ok mem n (fun r0 ok' mem' => r0 = none ∧ ok = ok' ∧ WS mem' w (l ++ [A 95 (40 * c + k) + 1, A 96 (40 * c + k), (if (A 97 (40 * c + k)) = -1 then 255 else (A 97 (40 * c + k)))] ++ trB A (40 * c + k) (A 97 (40 * c + k)).toNat) ∧ Fw w mem mem') := by
  obtain ⟨hN5, hN3⟩ := id hN
  obtain ⟨hC0, ⟨hC1, hC2, hC3, hC4, hC5, hC6, hC7⟩, hC8, ⟨hC9, hC10, hC11, hC12, hC13, hC14, hC15⟩, hC16, hC17, hb5, hb59⟩ := id hC
  obtain ⟨hR, hD, hSo⟩ := id hS
  have hOk := hI.ok
  obtain ⟨hW8, hWA, hw80, hw84⟩ := id hW
  have hk9 := hI.2.2.1.2 k hk.1 hk.2
  have hcr := hR.2.2.2 k hk.1 hk.2
  have hnc := hI.2.2.1.1
  have hF0 : Fw w mem mem := fun _ _ _ => rfl
  have hL1 := hL.2
  refine PM.of (by decide) (by decide) (Nat.le_refl _) (Nat.le_of_ble_eq_true rfl) ?_
  refine pw_aload_n 1 rfl dX8_writeCondition_0 rfl ?_
  refine pw_gR 2 (b + 11) dX8_writeCondition_1 cOk1 (by assumption) (by decide) kw_140 (by decide) rfl ?_
  refine pw_iload_n 2 rfl dX8_writeCondition_4 rfl ?_
  refine pw_iaload dX8_writeCondition_5 (by assumption) (by omega) (by omega) (fun r5 => ?_)
  rw [hcr.2.2.1] at r5 ⊢
  refine pw_istore_n 3 rfl dX8_writeCondition_6 (by decide) ?_
  refine pw_aload_n 0 rfl dX8_writeCondition_7 rfl ?_
  refine pw_aload_n 1 rfl dX8_writeCondition_8 rfl ?_
  refine pw_gR 0 (b + 9) dX8_writeCondition_9 cOk1 (by assumption) (by decide) kw_133 (by decide) rfl ?_
  refine pw_iload_n 2 rfl dX8_writeCondition_12 rfl ?_
  refine pw_iaload dX8_writeCondition_13 (by assumption) (by omega) (by omega) (fun r13 => ?_)
  rw [hcr.1] at r13 ⊢
  refine pw_iconst dX8_writeCondition_14 ?_
  refine pw_iadd dX8_writeCondition_15 ?_
  refine pw_callV (d' := d - 1) (As := [_]) (ci := 8) dX8_writeCondition_16 ok_X8_add kw_1000 rfl rfl (Of.o (by assumption)) (by omega) rfl (Nat.le_of_ble_eq_true rfl) (w_add (d - 1) (by omega) n ok mem w hW _ (by omega) (by omega)) (Nat.le_refl _) (Or.inl rfl) (fun r9 ok1 m1 hq => ?_)
  obtain ⟨rfl, rfl, em1⟩ := hq
  have hS1 := WS_w hL (A 95 (40 * c + k) + 1)
  rw [em1] at hS1
  have hF1 := Fw.w hF0 (A 95 (40 * c + k) + 1)
  rw [em1] at hF1
  have hn1 := hS1.2
  rw [List.length_append] at hn1
  simp only [List.length_cons, List.length_nil] at hn1
  refine pw_aload_n 0 rfl dX8_writeCondition_19 rfl ?_
  refine pw_aload_n 1 rfl dX8_writeCondition_20 rfl ?_
  refine pw_gR 1 (b + 10) dX8_writeCondition_21 cOk1 (by assumption) (by decide) kw_136 (by decide) rfl ?_
  refine pw_iload_n 2 rfl dX8_writeCondition_24 rfl ?_
  refine pw_iaload dX8_writeCondition_25 (by assumption) (by omega) (by omega) (fun r25 => ?_)
  rw [hF1 _ (by omega) (by omega), hcr.2.1] at r25 ⊢
  refine pw_callV (d' := d - 1) (As := [_]) (ci := 8) dX8_writeCondition_26 ok_X8_add kw_1000 rfl rfl (Of.o (by assumption)) (by omega) rfl (Nat.le_of_ble_eq_true rfl) (w_add (d - 1) (by omega) n ok m1 w hW _ (by omega) (by omega)) (Nat.le_refl _) (Or.inl rfl) (fun r9 ok1 m2 hq => ?_)
  obtain ⟨rfl, rfl, em2⟩ := hq
  have hS2 := WS_w hS1 (A 96 (40 * c + k))
  rw [em2] at hS2
  have hF2 := Fw.w hF1 (A 96 (40 * c + k))
  rw [em2] at hF2
  have hn2 := hS2.2
  rw [List.length_append] at hn2
  simp only [List.length_append, List.length_cons, List.length_nil] at hn2
  refine pw_aload_n 0 rfl dX8_writeCondition_29 rfl ?_
  refine pw_iload_n 3 rfl dX8_writeCondition_30 rfl ?_
  refine pw_iconst dX8_writeCondition_31 ?_
  refine pw_icmp_ne 41 (by decide) dX8_writeCondition_32 (by omega) (by omega) (fun c32 => ?_) (fun c32 => ?_)
  · skip
    refine pw_iload_n 3 rfl dX8_writeCondition_41 rfl ?_
    refine pw_callV (d' := d - 1) (As := [_]) (ci := 8) dX8_writeCondition_42 ok_X8_add kw_1000 rfl rfl (Of.o (by assumption)) (by omega) rfl (Nat.le_of_ble_eq_true rfl) (w_add (d - 1) (by omega) n ok m2 w hW _ (by omega) (by omega)) (Nat.le_refl _) (Or.inl rfl) (fun r9 ok1 m3 hq => ?_)
    obtain ⟨rfl, rfl, em3⟩ := hq
    have hS3 := WS_w hS2 ((A 97 (40 * c + k)))
    rw [em3] at hS3
    have hF3 := Fw.w hF2 ((A 97 (40 * c + k)))
    rw [em3] at hF3
    have hn3 := hS3.2
    rw [List.length_append] at hn3
    simp only [List.length_append, List.length_cons, List.length_nil] at hn3
    have eH : (if (A 97 (40 * c + k)) = -1 then 255 else (A 97 (40 * c + k))) = (A 97 (40 * c + k)) := if_neg c32
    rw [← eH] at hS3
    refine pw_iconst dX8_writeCondition_45 ?_
    refine pw_istore dX8_writeCondition_46 (by decide) ?_
    have lp48 : ∀ (kz : Nat) (i : Nat) (l2 : List Int) (m4 : pM), (A 97 (40 * c + k)).toNat - (i : Int) < (kz : Int) → (i ≤ (A 97 (40 * c + k)).toNat) → (l2 = l ++ [A 95 (40 * c + k) + 1, A 96 (40 * c + k), (if (A 97 (40 * c + k)) = -1 then 255 else (A 97 (40 * c + k)))] ++ trB A (40 * c + k) i) → (WS m4 w l2) → (Fw w mem m4) → PW mi_X8_writeCondition d n n (fun r0 ok' mem' => r0 = none ∧ ok = ok' ∧ WS mem' w (l ++ [A 95 (40 * c + k) + 1, A 96 (40 * c + k), (if (A 97 (40 * c + k)) = -1 then 255 else (A 97 (40 * c + k)))] ++ trB A (40 * c + k) (A 97 (40 * c + k)).toNat) ∧ Fw w mem mem') 48 [(0, vr w), (1, vr (b + 8)), (2, vi k), (3, vi (A 97 (40 * c + k))), (4, vi (i : Int))] [] n ok m4 := by
      intro kz
      induction kz with
      | zero =>
        intro i l2 m4 hk hi hl2 hS4 hF4
        exact absurd hk (by omega)
      | succ kz ih =>
        intro i l2 m4 hk hi hl2 hS4 hF4
        have hn4 := hS4.2
        have hlen4 : l2.length = l.length + 3 + i := by
          have := trB_len A (40 * c + k) i
          rw [hl2, List.length_append, List.length_append, this]; simp only [List.length_cons, List.length_nil]
        refine pw_iload dX8_writeCondition_48 rfl ?_
        refine pw_iload_n 3 rfl dX8_writeCondition_50 rfl ?_
        refine pw_icmp_ge 71 (by decide) dX8_writeCondition_51 (by omega) (by omega) (fun c51 => ?_) (fun c51 => ?_)
        · skip
          refine pw_vret dX8_writeCondition_71 rfl rfl ?_
          have e9 : i = (A 97 (40 * c + k)).toNat := by omega
          rw [← e9, ← hl2]
          exact ⟨rfl, rfl, hS4, hF4⟩
        · skip
          refine pw_aload_n 0 rfl dX8_writeCondition_54 rfl ?_
          refine pw_aload_n 1 rfl dX8_writeCondition_55 rfl ?_
          refine pw_iload_n 2 rfl dX8_writeCondition_56 rfl ?_
          refine pw_iload dX8_writeCondition_57 rfl ?_
          refine pw_callV (d' := d - 1) (As := [_, _]) (ci := 1) dX8_writeCondition_59 ok_X1_truthAt kw_1008 rfl rfl (Of.o (by assumption)) (by omega) rfl (Nat.le_of_ble_eq_true rfl) (q_truthAt (d - 1) (by omega) n ok m4 b hC k (i : Int) (by omega) (by omega)) (Nat.le_refl _) (Or.inl rfl) (fun r ok1 mem1 hq => ?_)
          obtain ⟨rfl, rfl, rfl⟩ := hq
          have hbt := hcr.2.2.2 i (by omega)
          have ht01 := hk9.2.2.2 i (by omega) (by omega)
          have hval : (if tb (m4 (b + 12) k) (i : Int).toNat = true then (1 : Int) else 0) = A 98 (6 * (40 * c + k) + i) := by
            rw [hF4 _ (by omega) (by omega), Int.toNat_natCast]
            by_cases q : A 98 (6 * (40 * c + k) + i) = 1
            · rw [if_pos (hbt.mpr q), q]
            · rw [if_neg (fun z => q (hbt.mp z))]; omega
          rw [hval]
          refine pw_callV (d' := d - 1) (As := [_]) (ci := 8) dX8_writeCondition_62 ok_X8_add kw_1000 rfl rfl (Of.o (by assumption)) (by omega) rfl (Nat.le_of_ble_eq_true rfl) (w_add (d - 1) (by omega) n ok m4 w hW _ (by omega) (by omega)) (Nat.le_refl _) (Or.inl rfl) (fun r9 ok1 m5 hq => ?_)
          obtain ⟨rfl, rfl, em5⟩ := hq
          have hS5 := WS_w hS4 (A 98 (6 * (40 * c + k) + i))
          rw [em5] at hS5
          have hF5 := Fw.w hF4 (A 98 (6 * (40 * c + k) + i))
          rw [em5] at hF5
          have hn5 := hS5.2
          rw [List.length_append] at hn5
          simp only [List.length_cons, List.length_nil] at hn5
          refine pw_iinc dX8_writeCondition_65 rfl (by decide) ?_
          refine pw_goto 48 (by decide) dX8_writeCondition_68 ?_
          exact pw_locs _ rfl (ih (i + 1) _ m5 (by omega) (by omega) (by show _ = l ++ _ ++ (trB A (40 * c + k) i ++ _); rw [hl2, List.append_assoc]) hS5 hF5)
    exact pw_locs _ rfl (lp48 7 0 _ m3 (by omega) (by omega) (by show _ = _ ++ []; simp only [List.append_assoc, List.cons_append, List.nil_append, List.append_nil]) hS3 hF3)
  · skip
    refine pw_sipush dX8_writeCondition_35 (by decide) ?_
    refine pw_goto 42 (by decide) dX8_writeCondition_38 ?_
    refine pw_callV (d' := d - 1) (As := [_]) (ci := 8) dX8_writeCondition_42 ok_X8_add kw_1000 rfl rfl (Of.o (by assumption)) (by omega) rfl (Nat.le_of_ble_eq_true rfl) (w_add (d - 1) (by omega) n ok m2 w hW _ (by omega) (by omega)) (Nat.le_refl _) (Or.inl rfl) (fun r9 ok1 m3 hq => ?_)
    obtain ⟨rfl, rfl, em3⟩ := hq
    have hS3 := WS_w hS2 (255)
    rw [em3] at hS3
    have hF3 := Fw.w hF2 (255)
    rw [em3] at hF3
    have hn3 := hS3.2
    rw [List.length_append] at hn3
    simp only [List.length_append, List.length_cons, List.length_nil] at hn3
    have eH : (if (A 97 (40 * c + k)) = -1 then 255 else (A 97 (40 * c + k))) = 255 := if_pos (by omega)
    rw [← eH] at hS3
    refine pw_iconst dX8_writeCondition_45 ?_
    refine pw_istore dX8_writeCondition_46 (by decide) ?_
    have lp48 : ∀ (kz : Nat) (i : Nat) (l2 : List Int) (m4 : pM), (A 97 (40 * c + k)).toNat - (i : Int) < (kz : Int) → (i ≤ (A 97 (40 * c + k)).toNat) → (l2 = l ++ [A 95 (40 * c + k) + 1, A 96 (40 * c + k), (if (A 97 (40 * c + k)) = -1 then 255 else (A 97 (40 * c + k)))] ++ trB A (40 * c + k) i) → (WS m4 w l2) → (Fw w mem m4) → PW mi_X8_writeCondition d n n (fun r0 ok' mem' => r0 = none ∧ ok = ok' ∧ WS mem' w (l ++ [A 95 (40 * c + k) + 1, A 96 (40 * c + k), (if (A 97 (40 * c + k)) = -1 then 255 else (A 97 (40 * c + k)))] ++ trB A (40 * c + k) (A 97 (40 * c + k)).toNat) ∧ Fw w mem mem') 48 [(0, vr w), (1, vr (b + 8)), (2, vi k), (3, vi (A 97 (40 * c + k))), (4, vi (i : Int))] [] n ok m4 := by
      intro kz
      induction kz with
      | zero =>
        intro i l2 m4 hk hi hl2 hS4 hF4
        exact absurd hk (by omega)
      | succ kz ih =>
        intro i l2 m4 hk hi hl2 hS4 hF4
        have hn4 := hS4.2
        have hlen4 : l2.length = l.length + 3 + i := by
          have := trB_len A (40 * c + k) i
          rw [hl2, List.length_append, List.length_append, this]; simp only [List.length_cons, List.length_nil]
        refine pw_iload dX8_writeCondition_48 rfl ?_
        refine pw_iload_n 3 rfl dX8_writeCondition_50 rfl ?_
        refine pw_icmp_ge 71 (by decide) dX8_writeCondition_51 (by omega) (by omega) (fun c51 => ?_) (fun c51 => ?_)
        · skip
          refine pw_vret dX8_writeCondition_71 rfl rfl ?_
          have e9 : i = (A 97 (40 * c + k)).toNat := by omega
          rw [← e9, ← hl2]
          exact ⟨rfl, rfl, hS4, hF4⟩
        · skip
          refine pw_aload_n 0 rfl dX8_writeCondition_54 rfl ?_
          refine pw_aload_n 1 rfl dX8_writeCondition_55 rfl ?_
          refine pw_iload_n 2 rfl dX8_writeCondition_56 rfl ?_
          refine pw_iload dX8_writeCondition_57 rfl ?_
          refine pw_callV (d' := d - 1) (As := [_, _]) (ci := 1) dX8_writeCondition_59 ok_X1_truthAt kw_1008 rfl rfl (Of.o (by assumption)) (by omega) rfl (Nat.le_of_ble_eq_true rfl) (q_truthAt (d - 1) (by omega) n ok m4 b hC k (i : Int) (by omega) (by omega)) (Nat.le_refl _) (Or.inl rfl) (fun r ok1 mem1 hq => ?_)
          obtain ⟨rfl, rfl, rfl⟩ := hq
          have hbt := hcr.2.2.2 i (by omega)
          have ht01 := hk9.2.2.2 i (by omega) (by omega)
          have hval : (if tb (m4 (b + 12) k) (i : Int).toNat = true then (1 : Int) else 0) = A 98 (6 * (40 * c + k) + i) := by
            rw [hF4 _ (by omega) (by omega), Int.toNat_natCast]
            by_cases q : A 98 (6 * (40 * c + k) + i) = 1
            · rw [if_pos (hbt.mpr q), q]
            · rw [if_neg (fun z => q (hbt.mp z))]; omega
          rw [hval]
          refine pw_callV (d' := d - 1) (As := [_]) (ci := 8) dX8_writeCondition_62 ok_X8_add kw_1000 rfl rfl (Of.o (by assumption)) (by omega) rfl (Nat.le_of_ble_eq_true rfl) (w_add (d - 1) (by omega) n ok m4 w hW _ (by omega) (by omega)) (Nat.le_refl _) (Or.inl rfl) (fun r9 ok1 m5 hq => ?_)
          obtain ⟨rfl, rfl, em5⟩ := hq
          have hS5 := WS_w hS4 (A 98 (6 * (40 * c + k) + i))
          rw [em5] at hS5
          have hF5 := Fw.w hF4 (A 98 (6 * (40 * c + k) + i))
          rw [em5] at hF5
          have hn5 := hS5.2
          rw [List.length_append] at hn5
          simp only [List.length_cons, List.length_nil] at hn5
          refine pw_iinc dX8_writeCondition_65 rfl (by decide) ?_
          refine pw_goto 48 (by decide) dX8_writeCondition_68 ?_
          exact pw_locs _ rfl (ih (i + 1) _ m5 (by omega) (by omega) (by show _ = l ++ _ ++ (trB A (40 * c + k) i ++ _); rw [hl2, List.append_assoc]) hS5 hF5)
    exact pw_locs _ rfl (lp48 7 0 _ m3 (by omega) (by omega) (by show _ = _ ++ []; simp only [List.append_assoc, List.cons_append, List.nil_append, List.append_nil]) hS3 hF3)
set_option maxHeartbeats 4000000 in
set_option maxRecDepth 100000 in
theorem w_write (d : Nat) (hd : 2 ≤ d) (n : Nat) (ok : pO) (mem : pM) (hN : NUp n ok) (b : Nat) (hC : ChUp n ok b) (A : pM) (c : Int) (hI : cIn A c) (hS : CS A c mem b) (hV : CV A c mem b (aAt A c)) (w : Nat) (hW : WUp n ok w) (hJ : mem b 13 = A 99 c ∧ mem b 14 = A 100 c) : PM mi_X8_write d [vr w, vr b] n ok mem n (fun r0 ok' mem' => r0 = none ∧ ok = ok' ∧ WS mem' w (wA A c) ∧ Fw w mem mem') := by
  obtain ⟨hN5, hN3⟩ := id hN
  obtain ⟨hC0, ⟨hC1, hC2, hC3, hC4, hC5, hC6, hC7⟩, hC8, ⟨hC9, hC10, hC11, hC12, hC13, hC14, hC15⟩, hC16, hC17, hb5, hb59⟩ := id hC
  obtain ⟨hR, hD, hSo⟩ := id hS
  have hOk := hI.ok
  obtain ⟨hW8, hWA, hw80, hw84⟩ := id hW
  refine PM.of (by decide) (by decide) (Nat.le_refl _) (Nat.le_of_ble_eq_true rfl) ?_
  refine pw_aload_n 0 rfl dX8_write_0 rfl ?_
  refine pw_iconst dX8_write_1 ?_
  refine pw_pI 1 1 rfl dX8_write_2 cOk8 (by assumption) (by decide) kw_340 rfl rfl (by decide) (by omega) ?_
  obtain ⟨m0, em0⟩ : ∃ y, y = wr mem w 1 0 := ⟨_, rfl⟩
  rw [← em0]
  have hS0 : WS m0 w [] := ⟨LW_0 _ _, by rw [em0, wr_s]; rfl⟩
  have hF0 : Fw w mem m0 := fun a h1 _ => by rw [em0]; exact wr_a _ _ _ h1
  refine pw_iconst dX8_write_5 ?_
  refine pw_istore_n 2 rfl dX8_write_6 (by decide) ?_
  have lp7 : ∀ (kz : Nat) (r : Nat) (l : List Int) (m1 : pM), 4 - (r : Int) < (kz : Int) → (r ≤ 4) → (l = rwsB A c r) → (WS m1 w l) → (Fw w mem m1) → PW mi_X8_write d n n (fun r0 ok' mem' => r0 = none ∧ ok = ok' ∧ WS mem' w (wA A c) ∧ Fw w mem mem') 7 [(0, vr w), (1, vr b), (2, vi (r : Int))] [] n ok m1 := by
    intro kz
    induction kz with
    | zero =>
      intro r l m1 hk hr hl hS1 hF1
      exact absurd hk (by omega)
    | succ kz ih =>
      intro r l m1 hk hr hl hS1 hF1
      have hlen := rwsB_len hI.1 r hr
      rw [← hl] at hlen
      have hn1 := hS1.2
      have hCS1 : CS A c m1 b := hS.m (fun a h1 h2 _ _ => hF1 a (by omega) (by omega))
      have hCV1 : CV A c m1 b (aAt A c) := hV.m (hF1 _ (by omega) (by omega))
      refine pw_iload_n 2 rfl dX8_write_7 rfl ?_
      refine pw_iconst dX8_write_8 ?_
      refine pw_icmp_ge 24 (by decide) dX8_write_9 (by omega) (by omega) (fun c9 => ?_) (fun c9 => ?_)
      · skip
        have er : r = 4 := by omega
        subst er
        have g8 : m1 (b + 8) 7 = A 94 c := by rw [hF1 _ (by omega) (by omega)]; exact hR.2.2.1
        have hnc := hI.2.2.1.1
        refine pw_aload_n 0 rfl dX8_write_24 rfl ?_
        refine pw_aload_n 1 rfl dX8_write_25 rfl ?_
        refine pw_gR 8 (b + 8) dX8_write_26 cOk0 (by assumption) (by decide) kw_247 (by decide) rfl ?_
        refine pw_gI 7 7 rfl dX8_write_29 cOk1 (by assumption) (by decide) kw_152 (by decide) (fun r29 => ?_)
        try simp (disch := omega) only [wr_s, wr_a, wr_k] at r29 ⊢
        rw [g8] at r29 ⊢
        refine pw_callV (d' := d - 1) (As := [_]) (ci := 8) dX8_write_32 ok_X8_add kw_1000 rfl rfl (Of.o (by assumption)) (by omega) rfl (Nat.le_of_ble_eq_true rfl) (w_add (d - 1) (by omega) n ok m1 w hW _ (by omega) (by omega)) (Nat.le_refl _) (Or.inl rfl) (fun r9 ok1 m2 hq => ?_)
        obtain ⟨rfl, rfl, em2⟩ := hq
        have hS2 := WS_w hS1 (A 94 c)
        rw [em2] at hS2
        have hF2 := Fw.w hF1 (A 94 c)
        rw [em2] at hF2
        have hn2 := hS2.2
        rw [List.length_append] at hn2
        simp only [List.length_cons, List.length_nil] at hn2
        refine pw_iconst dX8_write_35 ?_
        refine pw_istore_n 2 rfl dX8_write_36 (by decide) ?_
        have lp37 : ∀ (kz2 : Nat) (k : Nat) (l2 : List Int) (m3 : pM), A 94 c - (k : Int) < (kz2 : Int) → ((k : Int) ≤ A 94 c) → (l2 = l ++ [A 94 c] ++ cdB A c k) → (WS m3 w l2) → (Fw w mem m3) → PW mi_X8_write d n n (fun r0 ok' mem' => r0 = none ∧ ok = ok' ∧ WS mem' w (wA A c) ∧ Fw w mem mem') 37 [(0, vr w), (1, vr b), (2, vi (k : Int))] [] n ok m3 := by
          intro kz2
          induction kz2 with
          | zero =>
            intro k l2 m3 hk2 hk hl2 hS3 hF3
            exact absurd hk2 (by omega)
          | succ kz2 ih2 =>
            intro k l2 m3 hk2 hk hl2 hS3 hF3
            have hn3 := hS3.2
            have hlen3 : l2.length ≤ 69 + 9 * k := by
              have := cdB_len (fun k k1 k2 => (hI.2.2.1.2 k k1 k2).2.2.1) k hk
              rw [hl2, List.length_append, List.length_append]; simp only [List.length_cons, List.length_nil]; omega
            have g8b : m3 (b + 8) 7 = A 94 c := by rw [hF3 _ (by omega) (by omega)]; exact hR.2.2.1
            have gb : m3 b = mem b := hF3 _ (by omega) (by omega)
            have hCS3 : CS A c m3 b := hS.m (fun a h1 h2 _ _ => hF3 a (by omega) (by omega))
            have hCV3 : CV A c m3 b (aAt A c) := hV.m (hF3 _ (by omega) (by omega))
            refine pw_iload_n 2 rfl dX8_write_37 rfl ?_
            refine pw_aload_n 1 rfl dX8_write_38 rfl ?_
            refine pw_gR 8 (b + 8) dX8_write_39 cOk0 (by assumption) (by decide) kw_247 (by decide) rfl ?_
            refine pw_gI 7 7 rfl dX8_write_42 cOk1 (by assumption) (by decide) kw_152 (by decide) (fun r42 => ?_)
            try simp (disch := omega) only [wr_s, wr_a, wr_k] at r42 ⊢
            rw [g8b] at r42 ⊢
            refine pw_icmp_ge 63 (by decide) dX8_write_45 (by omega) (by omega) (fun c45 => ?_) (fun c45 => ?_)
            · skip
              have ek : k = (A 94 c).toNat := by omega
              have h4 := hI.2.2.2.1
              have h5 := hI.2.2.2.2.1
              refine pw_aload_n 0 rfl dX8_write_63 rfl ?_
              refine pw_aload_n 1 rfl dX8_write_64 rfl ?_
              refine pw_gI 13 13 rfl dX8_write_65 cOk0 (by assumption) (by decide) kw_257 (by decide) (fun r65 => ?_)
              try simp (disch := omega) only [wr_s, wr_a, wr_k] at r65 ⊢
              rw [gb, hJ.1] at r65 ⊢
              refine pw_callV (d' := d - 1) (As := [_]) (ci := 8) dX8_write_68 ok_X8_add kw_1000 rfl rfl (Of.o (by assumption)) (by omega) rfl (Nat.le_of_ble_eq_true rfl) (w_add (d - 1) (by omega) n ok m3 w hW _ (by omega) (by omega)) (Nat.le_refl _) (Or.inl rfl) (fun r9 ok1 m5 hq => ?_)
              obtain ⟨rfl, rfl, em5⟩ := hq
              have hS5 := WS_w hS3 (A 99 c)
              rw [em5] at hS5
              have hF5 := Fw.w hF3 (A 99 c)
              rw [em5] at hF5
              have hn5 := hS5.2
              rw [List.length_append] at hn5
              simp only [List.length_cons, List.length_nil] at hn5
              refine pw_aload_n 0 rfl dX8_write_71 rfl ?_
              refine pw_aload_n 1 rfl dX8_write_72 rfl ?_
              refine pw_gI 14 14 rfl dX8_write_73 cOk0 (by assumption) (by decide) kw_261 (by decide) (fun r73 => ?_)
              try simp (disch := omega) only [wr_s, wr_a, wr_k] at r73 ⊢
              rw [hF5 _ (by omega) (by omega), hJ.2] at r73 ⊢
              refine pw_iconst dX8_write_76 ?_
              refine pw_iadd dX8_write_77 ?_
              refine pw_callV (d' := d - 1) (As := [_]) (ci := 8) dX8_write_78 ok_X8_add kw_1000 rfl rfl (Of.o (by assumption)) (by omega) rfl (Nat.le_of_ble_eq_true rfl) (w_add (d - 1) (by omega) n ok m5 w hW _ (by omega) (by omega)) (Nat.le_refl _) (Or.inl rfl) (fun r9 ok1 m6 hq => ?_)
              obtain ⟨rfl, rfl, em6⟩ := hq
              have hS6 := WS_w hS5 (A 100 c + 1)
              rw [em6] at hS6
              have hF6 := Fw.w hF5 (A 100 c + 1)
              rw [em6] at hF6
              have hn6 := hS6.2
              rw [List.length_append] at hn6
              simp only [List.length_append, List.length_cons, List.length_nil] at hn6
              have ewL : l2 ++ [A 99 c] ++ [A 100 c + 1] = wL A c := by rw [hl2, hl, ek]; unfold wL; simp only [List.append_assoc, List.cons_append, List.nil_append]
              rw [ewL] at hS6
              have hmx := wL_len hI
              refine pw_iconst dX8_write_81 ?_
              refine pw_istore_n 2 rfl dX8_write_82 (by decide) ?_
              refine pw_iconst dX8_write_83 ?_
              refine pw_istore_n 3 rfl dX8_write_84 (by decide) ?_
              have lp85 : ∀ (kz3 : Nat) (i : Nat) (y : Int), (wL A c).length - (i : Int) < (kz3 : Int) → (i ≤ (wL A c).length) → (y = xF (nth (wL A c)) i) → PW mi_X8_write d n n (fun r0 ok' mem' => r0 = none ∧ ok = ok' ∧ WS mem' w (wA A c) ∧ Fw w mem mem') 85 [(0, vr w), (1, vr b), (2, vi y), (3, vi (i : Int))] [] n ok m6 := by
                intro kz3
                induction kz3 with
                | zero =>
                  intro i y hk3 hi5 hy
                  exact absurd hk3 (by omega)
                | succ kz3 ih3 =>
                  intro i y hk3 hi5 hy
                  refine pw_iload_n 3 rfl dX8_write_85 rfl ?_
                  refine pw_aload_n 0 rfl dX8_write_86 rfl ?_
                  refine pw_gI 1 1 rfl dX8_write_87 cOk8 (by assumption) (by decide) kw_340 (by decide) (fun r87 => ?_)
                  try simp (disch := omega) only [wr_s, wr_a, wr_k] at r87 ⊢
                  rw [hS6.2] at r87 ⊢
                  refine pw_icmp_ge 108 (by decide) dX8_write_90 (by omega) (by omega) (fun c90 => ?_) (fun c90 => ?_)
                  · skip
                    have ei : i = (wL A c).length := by omega
                    have hyr : -2147483648 ≤ y ∧ y ≤ 2147483647 := by rw [hy]; exact xF_ran _ _
                    refine pw_aload_n 0 rfl dX8_write_108 rfl ?_
                    refine pw_iload_n 2 rfl dX8_write_109 rfl ?_
                    refine pw_callV (d' := d - 1) (As := [_]) (ci := 8) dX8_write_110 ok_X8_add kw_1000 rfl rfl (Of.o (by assumption)) (by omega) rfl (Nat.le_of_ble_eq_true rfl) (w_add (d - 1) (by omega) n ok m6 w hW _ (by omega) (by rw [hS6.2]; omega)) (Nat.le_refl _) (Or.inl rfl) (fun r9 ok1 m7 hq => ?_)
                    obtain ⟨rfl, rfl, em7⟩ := hq
                    refine pw_vret dX8_write_113 rfl rfl ?_
                    have eA : wL A c ++ [y] = wA A c := by unfold wA; rw [hy, ei]
                    refine ⟨rfl, rfl, ?_, ?_⟩
                    · rw [← eA, ← em7]; exact WS_w hS6 y
                    · rw [← em7]; exact hF6.w y
                  · skip
                    refine pw_iload_n 2 rfl dX8_write_93 rfl ?_
                    refine pw_aload_n 0 rfl dX8_write_94 rfl ?_
                    refine pw_gR 0 (w + 1) dX8_write_95 cOk8 (by assumption) (by decide) kw_338 (by decide) rfl ?_
                    refine pw_iload_n 3 rfl dX8_write_98 rfl ?_
                    refine pw_iaload dX8_write_99 (by assumption) (by omega) (by omega) (fun r99 => ?_)
                    try simp (disch := omega) only [wr_s, wr_a, wr_k] at r99 ⊢
                    refine pw_ixor dX8_write_100 ?_
                    refine pw_istore_n 2 rfl dX8_write_101 (by decide) ?_
                    refine pw_iinc dX8_write_102 rfl (by decide) ?_
                    refine pw_goto 85 (by decide) dX8_write_105 ?_
                    exact pw_locs _ rfl (ih3 (i + 1) _ (by omega) (by omega) (by show _ = iXor _ _; rw [hy, hS6.1 i (by omega)]))
              exact pw_locs _ rfl (lp85 433 0 0 (by omega) (by omega) rfl)
            · skip
              refine pw_aload_n 0 rfl dX8_write_48 rfl ?_
              refine pw_aload_n 1 rfl dX8_write_49 rfl ?_
              refine pw_gR 8 (b + 8) dX8_write_50 cOk0 (by assumption) (by decide) kw_247 (by decide) rfl ?_
              refine pw_iload_n 2 rfl dX8_write_53 rfl ?_
              refine pw_callV (d' := d - 1) (As := [_, _]) (ci := 8) dX8_write_54 ok_X8_writeCondition kw_1004 rfl rfl (Of.o (by assumption)) (by omega) rfl (Nat.le_of_ble_eq_true rfl) (w_cond (d - 1) (by omega) n ok m3 hN b hC A c hI hCS3 hCV3 w hW (k : Int) (by omega) l2 hS3 (by omega)) (Nat.le_refl _) (Or.inl rfl) (fun r9 ok1 m4 hq => ?_)
              obtain ⟨rfl, rfl, hS4, hF4x⟩ := hq
              have hF4 : Fw w mem m4 := fun a h1 h2 => (hF4x a h1 h2).trans (hF3 a h1 h2)
              refine pw_iinc dX8_write_57 rfl (by decide) ?_
              refine pw_goto 37 (by decide) dX8_write_60 ?_
              exact pw_locs _ rfl (ih2 (k + 1) _ m4 (by omega) (by omega) (by show _ = l ++ _ ++ (cdB A c k ++ _ ++ _); rw [hl2]; simp only [List.append_assoc]) hS4 hF4)
        exact pw_locs _ rfl (lp37 41 0 _ m2 (by omega) (by omega) (by show _ = _ ++ []; rw [List.append_nil]) hS2 hF2)
      · skip
        refine pw_aload_n 0 rfl dX8_write_12 rfl ?_
        refine pw_aload_n 1 rfl dX8_write_13 rfl ?_
        refine pw_iload_n 2 rfl dX8_write_14 rfl ?_
        refine pw_callV (d' := d - 1) (As := [_, _]) (ci := 8) dX8_write_15 ok_X8_writeRow kw_996 rfl rfl (Of.o (by assumption)) (by omega) rfl (Nat.le_of_ble_eq_true rfl) (w_row (d - 1) (by omega) n ok m1 hN b hC A c hI hCS1 hCV1 w hW (r : Int) (by omega) l hS1 (by omega)) (Nat.le_refl _) (Or.inl rfl) (fun r9 ok1 m2 hq => ?_)
        obtain ⟨rfl, rfl, hS2, hF2x⟩ := hq
        have hF2 : Fw w mem m2 := fun a h1 h2 => (hF2x a h1 h2).trans (hF1 a h1 h2)
        refine pw_iinc dX8_write_18 rfl (by decide) ?_
        refine pw_goto 7 (by decide) dX8_write_21 ?_
        exact pw_locs _ rfl (ih (r + 1) _ m2 (by omega) (by omega) (by show _ = rwsB A c r ++ _ ++ _; rw [hl]) hS2 hF2)
  exact pw_locs _ rfl (lp7 5 0 [] m0 (by omega) (by omega) rfl hS0 hF0)
set_option maxHeartbeats 4000000 in
set_option maxRecDepth 100000 in
theorem w_isLike (d : Nat) (hd : 0 ≤ d) (n : Nat) (ok : pO) (mem : pM) (w : Nat) (hW : WUp n ok w) (w2 : Nat) (hW2 : WUp n ok w2) (l1 l2 : List Int) (hS1 : WS mem w l1) (hS2 : WS mem w2 l2) (hl1 : l1.length ≤ 432) (hl2 : l2.length ≤ 432) : PM mi_X8_isLike d [vr w, vr w2] n ok mem n (fun r ok' mem' => r = some (vi (if l1 = l2 then 1 else 0)) ∧ ok = ok' ∧ mem = mem') := by
  obtain ⟨hW8, hWA, hw80, hw84⟩ := id hW
  obtain ⟨hX8, hXA, hx80, hx84⟩ := id hW2
  refine PM.of (by decide) (by decide) (Nat.le_refl _) (Nat.le_of_ble_eq_true rfl) ?_
  refine pw_aload_n 0 rfl dX8_isLike_0 rfl ?_
  refine pw_gI 1 1 rfl dX8_isLike_1 cOk8 (by assumption) (by decide) kw_340 (by decide) (fun r1 => ?_)
  rw [hS1.2] at r1 ⊢
  refine pw_aload_n 1 rfl dX8_isLike_4 rfl ?_
  refine pw_gI 1 1 rfl dX8_isLike_5 cOk8 (by assumption) (by decide) kw_340 (by decide) (fun r5 => ?_)
  rw [hS2.2] at r5 ⊢
  refine pw_icmp_ne 15 (by decide) dX8_isLike_8 (by omega) (by omega) (fun c8 => ?_) (fun c8 => ?_)
  · skip
    have hy0 : (((0 : Int) = 1 ∧ l2.length = l1.length ∧ ∀ j : Nat, j < 0 → nth l1 j = nth l2 j) ∨ ((0 : Int) = 0 ∧ l1 ≠ l2)) := Or.inr ⟨rfl, fun z => c8 (by rw [z])⟩
    refine pw_iconst dX8_isLike_15 ?_
    refine pw_istore_n 2 rfl dX8_isLike_16 (by decide) ?_
    refine pw_iconst dX8_isLike_17 ?_
    refine pw_istore_n 3 rfl dX8_isLike_18 (by decide) ?_
    have lp19 : ∀ (kz : Nat) (i : Nat) (y : Int), (l1.length : Int) - (i : Int) < (kz : Int) → (i ≤ l1.length) → ((y = 1 ∧ l2.length = l1.length ∧ ∀ j : Nat, j < i → nth l1 j = nth l2 j) ∨ (y = 0 ∧ l1 ≠ l2)) → PW mi_X8_isLike d n n (fun r ok' mem' => r = some (vi (if l1 = l2 then 1 else 0)) ∧ ok = ok' ∧ mem = mem') 19 [(0, vr w), (1, vr w2), (2, vi y), (3, vi (i : Int))] [] n ok mem := by
      intro kz
      induction kz with
      | zero =>
        intro i y hk hi2 hy
        exact absurd hk (by omega)
      | succ kz ih =>
        intro i y hk hi2 hy
        have hy1 : y = 0 ∨ y = 1 := by
          rcases hy with z | z
          · exact Or.inr z.1
          · exact Or.inl z.1
        refine pw_iload_n 3 rfl dX8_isLike_19 rfl ?_
        refine pw_aload_n 0 rfl dX8_isLike_20 rfl ?_
        refine pw_gI 1 1 rfl dX8_isLike_21 cOk8 (by assumption) (by decide) kw_340 (by decide) (fun r21 => ?_)
        try simp (disch := omega) only [wr_s, wr_a, wr_k] at r21 ⊢
        rw [hS1.2] at r21 ⊢
        refine pw_icmp_ge 58 (by decide) dX8_isLike_24 (by omega) (by omega) (fun c24 => ?_) (fun c24 => ?_)
        · skip
          refine pw_iload_n 2 rfl dX8_isLike_58 rfl ?_
          refine pw_zret dX8_isLike_59 rfl (by omega) rfl ?_
          have hEq : l1 = l2 ↔ y = 1 := by
            rcases hy with z | z
            · exact ⟨fun _ => z.1, fun _ => nth_ext _ _ z.2.1.symm (fun j hj => z.2.2 j (by omega))⟩
            · exact ⟨fun q => absurd q z.2, fun q => absurd q (by omega)⟩
          refine ⟨congrArg (fun z => some (vi z)) ?_, rfl, rfl⟩
          by_cases q : l1 = l2
          · rw [if_pos q, hEq.mp q]
          · rw [if_neg q]; rcases hy with z | z
            · exact absurd (hEq.mpr z.1) q
            · exact z.1
        · skip
          refine pw_iload_n 2 rfl dX8_isLike_27 rfl ?_
          refine pw_if_eq 58 (by decide) dX8_isLike_28 (by omega) (fun c28 => ?_) (fun c28 => ?_)
          · skip
            refine pw_iload_n 2 rfl dX8_isLike_58 rfl ?_
            refine pw_zret dX8_isLike_59 rfl (by omega) rfl ?_
            have hEq : l1 = l2 ↔ y = 1 := by
              rcases hy with z | z
              · exact ⟨fun _ => z.1, fun _ => nth_ext _ _ z.2.1.symm (fun j hj => z.2.2 j (by omega))⟩
              · exact ⟨fun q => absurd q z.2, fun q => absurd q (by omega)⟩
            refine ⟨congrArg (fun z => some (vi z)) ?_, rfl, rfl⟩
            by_cases q : l1 = l2
            · rw [if_pos q, hEq.mp q]
            · rw [if_neg q]; rcases hy with z | z
              · exact absurd (hEq.mpr z.1) q
              · exact z.1
          · skip
            have hyy : y = 1 ∧ l2.length = l1.length ∧ ∀ j : Nat, j < i → nth l1 j = nth l2 j := by rcases hy with z | z; exact z; exact absurd z.1 c28
            have e1 := hS1.1 i (by omega)
            have e2 := hS2.1 i (by omega)
            refine pw_aload_n 0 rfl dX8_isLike_31 rfl ?_
            refine pw_gR 0 (w + 1) dX8_isLike_32 cOk8 (by assumption) (by decide) kw_338 (by decide) rfl ?_
            refine pw_iload_n 3 rfl dX8_isLike_35 rfl ?_
            refine pw_iaload dX8_isLike_36 (by assumption) (by omega) (by omega) (fun r36 => ?_)
            try simp (disch := omega) only [wr_s, wr_a, wr_k] at r36 ⊢
            refine pw_aload_n 1 rfl dX8_isLike_37 rfl ?_
            refine pw_gR 0 (w2 + 1) dX8_isLike_38 cOk8 (by assumption) (by decide) kw_338 (by decide) rfl ?_
            refine pw_iload_n 3 rfl dX8_isLike_41 rfl ?_
            refine pw_iaload dX8_isLike_42 (by assumption) (by omega) (by omega) (fun r42 => ?_)
            try simp (disch := omega) only [wr_s, wr_a, wr_k] at r42 ⊢
            refine pw_icmp_ne 50 (by decide) dX8_isLike_43 (by omega) (by omega) (fun c43 => ?_) (fun c43 => ?_)
            · skip
              refine pw_iconst dX8_isLike_50 ?_
              refine pw_istore_n 2 rfl dX8_isLike_51 (by decide) ?_
              refine pw_iinc dX8_isLike_52 rfl (by decide) ?_
              refine pw_goto 19 (by decide) dX8_isLike_55 ?_
              exact pw_locs _ rfl (ih (i + 1) 0 (by omega) (by omega) (Or.inr ⟨rfl, fun z => c43 (by rw [e1, e2, z])⟩))
            · skip
              refine pw_iconst dX8_isLike_46 ?_
              refine pw_goto 51 (by decide) dX8_isLike_47 ?_
              refine pw_istore_n 2 rfl dX8_isLike_51 (by decide) ?_
              refine pw_iinc dX8_isLike_52 rfl (by decide) ?_
              refine pw_goto 19 (by decide) dX8_isLike_55 ?_
              have hal : ∀ j : Nat, j < i + 1 → nth l1 j = nth l2 j := fun j hj => by
                by_cases e : j = i
                · subst e; rw [← e1, ← e2]; omega
                · exact hyy.2.2 j (by omega)
              exact pw_locs _ rfl (ih (i + 1) 1 (by omega) (by omega) (Or.inl ⟨rfl, hyy.2.1, hal⟩))
    exact pw_locs _ rfl (lp19 433 0 _ (by omega) (by omega) hy0)
  · skip
    have hy0 : (((1 : Int) = 1 ∧ l2.length = l1.length ∧ ∀ j : Nat, j < 0 → nth l1 j = nth l2 j) ∨ ((1 : Int) = 0 ∧ l1 ≠ l2)) := Or.inl ⟨rfl, by omega, fun j hj => absurd hj (Nat.not_lt_zero j)⟩
    refine pw_iconst dX8_isLike_11 ?_
    refine pw_goto 16 (by decide) dX8_isLike_12 ?_
    refine pw_istore_n 2 rfl dX8_isLike_16 (by decide) ?_
    refine pw_iconst dX8_isLike_17 ?_
    refine pw_istore_n 3 rfl dX8_isLike_18 (by decide) ?_
    have lp19 : ∀ (kz : Nat) (i : Nat) (y : Int), (l1.length : Int) - (i : Int) < (kz : Int) → (i ≤ l1.length) → ((y = 1 ∧ l2.length = l1.length ∧ ∀ j : Nat, j < i → nth l1 j = nth l2 j) ∨ (y = 0 ∧ l1 ≠ l2)) → PW mi_X8_isLike d n n (fun r ok' mem' => r = some (vi (if l1 = l2 then 1 else 0)) ∧ ok = ok' ∧ mem = mem') 19 [(0, vr w), (1, vr w2), (2, vi y), (3, vi (i : Int))] [] n ok mem := by
      intro kz
      induction kz with
      | zero =>
        intro i y hk hi2 hy
        exact absurd hk (by omega)
      | succ kz ih =>
        intro i y hk hi2 hy
        have hy1 : y = 0 ∨ y = 1 := by
          rcases hy with z | z
          · exact Or.inr z.1
          · exact Or.inl z.1
        refine pw_iload_n 3 rfl dX8_isLike_19 rfl ?_
        refine pw_aload_n 0 rfl dX8_isLike_20 rfl ?_
        refine pw_gI 1 1 rfl dX8_isLike_21 cOk8 (by assumption) (by decide) kw_340 (by decide) (fun r21 => ?_)
        try simp (disch := omega) only [wr_s, wr_a, wr_k] at r21 ⊢
        rw [hS1.2] at r21 ⊢
        refine pw_icmp_ge 58 (by decide) dX8_isLike_24 (by omega) (by omega) (fun c24 => ?_) (fun c24 => ?_)
        · skip
          refine pw_iload_n 2 rfl dX8_isLike_58 rfl ?_
          refine pw_zret dX8_isLike_59 rfl (by omega) rfl ?_
          have hEq : l1 = l2 ↔ y = 1 := by
            rcases hy with z | z
            · exact ⟨fun _ => z.1, fun _ => nth_ext _ _ z.2.1.symm (fun j hj => z.2.2 j (by omega))⟩
            · exact ⟨fun q => absurd q z.2, fun q => absurd q (by omega)⟩
          refine ⟨congrArg (fun z => some (vi z)) ?_, rfl, rfl⟩
          by_cases q : l1 = l2
          · rw [if_pos q, hEq.mp q]
          · rw [if_neg q]; rcases hy with z | z
            · exact absurd (hEq.mpr z.1) q
            · exact z.1
        · skip
          refine pw_iload_n 2 rfl dX8_isLike_27 rfl ?_
          refine pw_if_eq 58 (by decide) dX8_isLike_28 (by omega) (fun c28 => ?_) (fun c28 => ?_)
          · skip
            refine pw_iload_n 2 rfl dX8_isLike_58 rfl ?_
            refine pw_zret dX8_isLike_59 rfl (by omega) rfl ?_
            have hEq : l1 = l2 ↔ y = 1 := by
              rcases hy with z | z
              · exact ⟨fun _ => z.1, fun _ => nth_ext _ _ z.2.1.symm (fun j hj => z.2.2 j (by omega))⟩
              · exact ⟨fun q => absurd q z.2, fun q => absurd q (by omega)⟩
            refine ⟨congrArg (fun z => some (vi z)) ?_, rfl, rfl⟩
            by_cases q : l1 = l2
            · rw [if_pos q, hEq.mp q]
            · rw [if_neg q]; rcases hy with z | z
              · exact absurd (hEq.mpr z.1) q
              · exact z.1
          · skip
            have hyy : y = 1 ∧ l2.length = l1.length ∧ ∀ j : Nat, j < i → nth l1 j = nth l2 j := by rcases hy with z | z; exact z; exact absurd z.1 c28
            have e1 := hS1.1 i (by omega)
            have e2 := hS2.1 i (by omega)
            refine pw_aload_n 0 rfl dX8_isLike_31 rfl ?_
            refine pw_gR 0 (w + 1) dX8_isLike_32 cOk8 (by assumption) (by decide) kw_338 (by decide) rfl ?_
            refine pw_iload_n 3 rfl dX8_isLike_35 rfl ?_
            refine pw_iaload dX8_isLike_36 (by assumption) (by omega) (by omega) (fun r36 => ?_)
            try simp (disch := omega) only [wr_s, wr_a, wr_k] at r36 ⊢
            refine pw_aload_n 1 rfl dX8_isLike_37 rfl ?_
            refine pw_gR 0 (w2 + 1) dX8_isLike_38 cOk8 (by assumption) (by decide) kw_338 (by decide) rfl ?_
            refine pw_iload_n 3 rfl dX8_isLike_41 rfl ?_
            refine pw_iaload dX8_isLike_42 (by assumption) (by omega) (by omega) (fun r42 => ?_)
            try simp (disch := omega) only [wr_s, wr_a, wr_k] at r42 ⊢
            refine pw_icmp_ne 50 (by decide) dX8_isLike_43 (by omega) (by omega) (fun c43 => ?_) (fun c43 => ?_)
            · skip
              refine pw_iconst dX8_isLike_50 ?_
              refine pw_istore_n 2 rfl dX8_isLike_51 (by decide) ?_
              refine pw_iinc dX8_isLike_52 rfl (by decide) ?_
              refine pw_goto 19 (by decide) dX8_isLike_55 ?_
              exact pw_locs _ rfl (ih (i + 1) 0 (by omega) (by omega) (Or.inr ⟨rfl, fun z => c43 (by rw [e1, e2, z])⟩))
            · skip
              refine pw_iconst dX8_isLike_46 ?_
              refine pw_goto 51 (by decide) dX8_isLike_47 ?_
              refine pw_istore_n 2 rfl dX8_isLike_51 (by decide) ?_
              refine pw_iinc dX8_isLike_52 rfl (by decide) ?_
              refine pw_goto 19 (by decide) dX8_isLike_55 ?_
              have hal : ∀ j : Nat, j < i + 1 → nth l1 j = nth l2 j := fun j hj => by
                by_cases e : j = i
                · subst e; rw [← e1, ← e2]; omega
                · exact hyy.2.2 j (by omega)
              exact pw_locs _ rfl (ih (i + 1) 1 (by omega) (by omega) (Or.inl ⟨rfl, hyy.2.1, hal⟩))
    exact pw_locs _ rfl (lp19 433 0 _ (by omega) (by omega) hy0)
set_option maxHeartbeats 4000000 in
set_option maxRecDepth 100000 in
theorem w_hash (d : Nat) (hd : 0 ≤ d) (n : Nat) (ok : pO) (mem : pM) (w : Nat) (hW : WUp n ok w) (l : List Int) (hS : WS mem w l) (hl : l.length ≤ 432) : PM mi_X8_hash d [vr w] n ok mem n (fun r ok' mem' => r = some (vl (hashF (nth l) l.length)) ∧ ok = ok' ∧ mem = mem') := by
  obtain ⟨hW8, hWA, hw80, hw84⟩ := id hW
  refine PM.of (by decide) (by decide) (Nat.le_refl _) (Nat.le_of_ble_eq_true rfl) ?_
  refine pw_ldc2 (x := 1469598103934665603) kw_1029 (by decide) dX8_hash_0 ?_
  refine pw_lstore_n 1 rfl dX8_hash_3 (by decide) ?_
  refine pw_iconst dX8_hash_4 ?_
  refine pw_istore_n 3 rfl dX8_hash_5 (by decide) ?_
  have lp6 : ∀ (kz : Nat) (i : Nat) (h : Int), (l.length : Int) - (i : Int) < (kz : Int) → (i ≤ l.length) → (h = hashF (nth l) i) → PW mi_X8_hash d n n (fun r ok' mem' => r = some (vl (hashF (nth l) l.length)) ∧ ok = ok' ∧ mem = mem') 6 [(0, vr w), (1, vl h), (3, vi (i : Int))] [] n ok mem := by
    intro kz
    induction kz with
    | zero =>
      intro i h hk hi hh
      exact absurd hk (by omega)
    | succ kz ih =>
      intro i h hk hi hh
      refine pw_iload_n 3 rfl dX8_hash_6 rfl ?_
      refine pw_aload_n 0 rfl dX8_hash_7 rfl ?_
      refine pw_gI 1 1 rfl dX8_hash_8 cOk8 (by assumption) (by decide) kw_340 (by decide) (fun r8 => ?_)
      try simp (disch := omega) only [wr_s, wr_a, wr_k] at r8 ⊢
      rw [hS.2] at r8 ⊢
      refine pw_icmp_ge 34 (by decide) dX8_hash_11 (by omega) (by omega) (fun c11 => ?_) (fun c11 => ?_)
      · skip
        refine pw_lload_n 1 rfl dX8_hash_34 rfl ?_
        refine pw_lret dX8_hash_35 rfl rfl ?_
        have ei : i = l.length := by omega
        rw [hh, ei]; exact ⟨rfl, rfl, rfl⟩
      · skip
        refine pw_lload_n 1 rfl dX8_hash_14 rfl ?_
        refine pw_aload_n 0 rfl dX8_hash_15 rfl ?_
        refine pw_gR 0 (w + 1) dX8_hash_16 cOk8 (by assumption) (by decide) kw_338 (by decide) rfl ?_
        refine pw_iload_n 3 rfl dX8_hash_19 rfl ?_
        refine pw_iaload dX8_hash_20 (by assumption) (by omega) (by omega) (fun r20 => ?_)
        try simp (disch := omega) only [wr_s, wr_a, wr_k] at r20 ⊢
        refine pw_i2l dX8_hash_21 (by omega) ?_
        refine pw_lxor dX8_hash_22 ?_
        refine pw_ldc2 (x := 1099511628211) kw_1030 (by decide) dX8_hash_23 ?_
        refine pw_lmul dX8_hash_26 ?_
        refine pw_lstore_n 1 rfl dX8_hash_27 (by decide) ?_
        refine pw_iinc dX8_hash_28 rfl (by decide) ?_
        refine pw_goto 6 (by decide) dX8_hash_31 ?_
        exact pw_locs _ rfl (ih (i + 1) _ (by omega) (by omega) (by show _ = lXor _ _ * _; rw [hh, hS.1 i (by omega)]))
  exact pw_locs _ rfl (lp6 433 0 _ (by omega) (by omega) rfl)
