/-! ===== the class: what the search is asked ===== -/
set_option maxHeartbeats 4000000 in
set_option maxRecDepth 100000 in
theorem y_isWhole (d : Nat) (hd : 0 ≤ d) (n : Nat) (ok : pO) (mem : pM) (hU : SUp n ok) : PM mi_X7_isWhole d [vr 123] n ok mem n (fun r ok' mem' => r = some (vi (if mem 123 14 = mem 123 13 then 1 else 0)) ∧ ok = ok' ∧ mem = mem') := by
  obtain ⟨hT7, ⟨q124, q125, q126, q127, q128, q129, q130⟩, hT6, q132, q133⟩ := id hU
  refine PM.of (by decide) (by decide) (Nat.le_refl _) (Nat.le_of_ble_eq_true rfl) ?_
  refine pw_aload_n 0 rfl dX7_isWhole_0 rfl ?_
  refine pw_gI 14 14 rfl dX7_isWhole_1 cOk7 (by assumption) (by decide) kw_575 (by decide) (fun r1 => ?_)
  refine pw_aload_n 0 rfl dX7_isWhole_4 rfl ?_
  refine pw_gI 13 13 rfl dX7_isWhole_5 cOk7 (by assumption) (by decide) kw_573 (by decide) (fun r5 => ?_)
  refine pw_icmp_ne 15 (by decide) dX7_isWhole_8 (by omega) (by omega) (fun c8 => ?_) (fun c8 => ?_)
  · skip
    refine pw_iconst dX7_isWhole_15 ?_
    refine pw_zret dX7_isWhole_16 rfl (by omega) rfl ?_
    refine ⟨congrArg (fun z => some (vi z)) ?_, rfl, rfl⟩
    first | (rw [if_pos (by omega)]) | (rw [if_neg (by omega)])
  · skip
    refine pw_iconst dX7_isWhole_11 ?_
    refine pw_goto 16 (by decide) dX7_isWhole_12 ?_
    refine pw_zret dX7_isWhole_16 rfl (by omega) rfl ?_
    refine ⟨congrArg (fun z => some (vi z)) ?_, rfl, rfl⟩
    first | (rw [if_pos (by omega)]) | (rw [if_neg (by omega)])
set_option maxHeartbeats 4000000 in
set_option maxRecDepth 100000 in
theorem y_orderOf (d : Nat) (hd : 0 ≤ d) (n : Nat) (ok : pO) (mem : pM) (hU : SUp n ok) (x : Int) (hx : -2147483648 ≤ x ∧ x ≤ 2147483647) : PM mi_X7_orderOf d [vr 123, vi x] n ok mem n (fun r ok' mem' => r = some (vi (if 0 ≤ x ∧ x < 1024 then mem 128 x else -1)) ∧ ok = ok' ∧ mem = mem') := by
  obtain ⟨hT7, ⟨q124, q125, q126, q127, q128, q129, q130⟩, hT6, q132, q133⟩ := id hU
  refine PM.of (by decide) (by decide) (Nat.le_refl _) (Nat.le_of_ble_eq_true rfl) ?_
  refine pw_iload_n 1 rfl dX7_orderOf_0 rfl ?_
  refine pw_if_lt 20 (by decide) dX7_orderOf_1 (by omega) (fun c1 => ?_) (fun c1 => ?_)
  · skip
    refine pw_iconst dX7_orderOf_20 ?_
    refine pw_iret dX7_orderOf_21 rfl rfl ?_
    refine ⟨congrArg (fun z => some (vi z)) ?_, rfl, rfl⟩
    first | (rw [if_pos (by omega)]) | (rw [if_neg (by omega)])
  · skip
    refine pw_iload_n 1 rfl dX7_orderOf_4 rfl ?_
    refine pw_sipush dX7_orderOf_5 (by decide) ?_
    refine pw_icmp_ge 20 (by decide) dX7_orderOf_8 (by omega) (by omega) (fun c8 => ?_) (fun c8 => ?_)
    · skip
      refine pw_iconst dX7_orderOf_20 ?_
      refine pw_iret dX7_orderOf_21 rfl rfl ?_
      refine ⟨congrArg (fun z => some (vi z)) ?_, rfl, rfl⟩
      first | (rw [if_pos (by omega)]) | (rw [if_neg (by omega)])
    · skip
      refine pw_aload_n 0 rfl dX7_orderOf_11 rfl ?_
      refine pw_gR 4 128 dX7_orderOf_12 cOk7 (by assumption) (by decide) kw_560 (by decide) rfl ?_
      refine pw_iload_n 1 rfl dX7_orderOf_15 rfl ?_
      refine pw_iaload dX7_orderOf_16 (by assumption) (by omega) (by omega) (fun r16 => ?_)
      refine pw_goto 21 (by decide) dX7_orderOf_17 ?_
      refine pw_iret dX7_orderOf_21 rfl rfl ?_
      refine ⟨congrArg (fun z => some (vi z)) ?_, rfl, rfl⟩
      first | (rw [if_pos (by omega)]) | (rw [if_neg (by omega)])
set_option maxHeartbeats 4000000 in
set_option maxRecDepth 100000 in
theorem y_wayLength (d : Nat) (hd : 0 ≤ d) (n : Nat) (ok : pO) (mem : pM) (hU : SUp n ok) (S : pM) (hSI : SIs S) (hSR : SRm S mem) (h15 : mem 123 15 = S 88 36) : PM mi_X7_wayLength d [vr 123] n ok mem n (fun r ok' mem' => r = some (vi (if S 88 36 = -1 then -1 else S 109 (S 108 (S 88 36)))) ∧ ok = ok' ∧ mem = mem') := by
  obtain ⟨hT7, ⟨q124, q125, q126, q127, q128, q129, q130⟩, hT6, q132, q133⟩ := id hU
  have hq1 := hSI.1
  refine PM.of (by decide) (by decide) (Nat.le_refl _) (Nat.le_of_ble_eq_true rfl) ?_
  refine pw_aload_n 0 rfl dX7_wayLength_0 rfl ?_
  refine pw_gI 15 15 rfl dX7_wayLength_1 cOk7 (by assumption) (by decide) kw_576 (by decide) (fun r1 => ?_)
  rw [h15] at r1 ⊢
  refine pw_iconst dX7_wayLength_4 ?_
  refine pw_icmp_ne 12 (by decide) dX7_wayLength_5 (by omega) (by omega) (fun c5 => ?_) (fun c5 => ?_)
  · skip
    refine pw_aload_n 0 rfl dX7_wayLength_12 rfl ?_
    refine pw_gR 1 125 dX7_wayLength_13 cOk7 (by assumption) (by decide) kw_555 (by decide) rfl ?_
    refine pw_aload_n 0 rfl dX7_wayLength_16 rfl ?_
    refine pw_gI 15 15 rfl dX7_wayLength_17 cOk7 (by assumption) (by decide) kw_576 (by decide) (fun r17 => ?_)
    rw [h15] at r17 ⊢
    refine pw_iaload dX7_wayLength_20 (by assumption) (by omega) (by omega) (fun r20 => ?_)
    rw [(hSR.2.2.1 _ (by omega) (by omega)).2.1] at r20 ⊢
    refine pw_iret dX7_wayLength_21 rfl rfl ?_
    refine ⟨congrArg (fun z => some (vi z)) ?_, rfl, rfl⟩
    first | (rw [if_pos (by omega)]) | (rw [if_neg (by omega)])
  · skip
    refine pw_iconst dX7_wayLength_8 ?_
    refine pw_goto 21 (by decide) dX7_wayLength_9 ?_
    refine pw_iret dX7_wayLength_21 rfl rfl ?_
    refine ⟨congrArg (fun z => some (vi z)) ?_, rfl, rfl⟩
    first | (rw [if_pos (by omega)]) | (rw [if_neg (by omega)])
set_option maxHeartbeats 4000000 in
set_option maxRecDepth 100000 in
theorem y_orderOnWay (d : Nat) (hd : 1 ≤ d) (n : Nat) (ok : pO) (mem : pM) (hU : SUp n ok) (S : pM) (hSI : SIs S) (hSR : SRm S mem) (h15 : mem 123 15 = S 88 36) (k : Int) (hf : S 88 36 ≠ -1) (hk : 0 ≤ k ∧ k ≤ S 109 (S 108 (S 88 36))) : PM mi_X7_orderOnWay d [vr 123, vi k] n ok mem n (fun r ok' mem' => r = some (vi (ancG S (S 109 (S 108 (S 88 36)) - k).toNat (S 88 36))) ∧ ok = ok' ∧ mem = mem') := by
  obtain ⟨hT7, ⟨q124, q125, q126, q127, q128, q129, q130⟩, hT6, q132, q133⟩ := id hU
  have hq1 := hSI.1
  refine PM.of (by decide) (by decide) (Nat.le_refl _) (Nat.le_of_ble_eq_true rfl) ?_
  refine pw_aload_n 0 rfl dX7_orderOnWay_0 rfl ?_
  refine pw_gI 15 15 rfl dX7_orderOnWay_1 cOk7 (by assumption) (by decide) kw_576 (by decide) (fun r1 => ?_)
  rw [h15] at r1 ⊢
  refine pw_istore_n 2 rfl dX7_orderOnWay_4 (by decide) ?_
  refine pw_aload_n 0 rfl dX7_orderOnWay_5 rfl ?_
  refine pw_callV (d' := d - 1) (As := []) (ci := 7) dX7_orderOnWay_6 ok_X7_wayLength kw_905 rfl rfl (Of.o (by assumption)) (by omega) rfl (Nat.le_of_ble_eq_true rfl) (y_wayLength (d - 1) (by omega) n ok mem hU S hSI hSR h15) (Nat.le_refl _) (Or.inl rfl) (fun r ok1 mem1 hq => ?_)
  obtain ⟨rfl, rfl, rfl⟩ := hq
  rw [if_neg hf]
  have hf9 := hSI.2.1 (S 88 36) (by omega) (by omega)
  refine pw_istore_n 3 rfl dX7_orderOnWay_9 (by decide) ?_
  have lp10 : ∀ (kz : Nat) (o l : Int), l - k < (kz : Int) → (0 ≤ o ∧ o < S 88 34) → (l = S 109 (S 108 o) ∧ k ≤ l) → (ancG S (S 109 (S 108 (S 88 36)) - k).toNat (S 88 36) = ancG S (l - k).toNat o) → PW mi_X7_orderOnWay d n n (fun r ok' mem' => r = some (vi (ancG S (S 109 (S 108 (S 88 36)) - k).toNat (S 88 36))) ∧ ok = ok' ∧ mem = mem') 10 [(0, vr 123), (1, vi k), (2, vi o), (3, vi l)] [] n ok mem := by
    intro kz
    induction kz with
    | zero =>
      intro o l hk ho hl hG
      exact absurd hk (by omega)
    | succ kz ih =>
      intro o l hk ho hl hG
      have hlr := hSI.2.1 o ho.1 ho.2
      refine pw_iload_n 3 rfl dX7_orderOnWay_10 rfl ?_
      refine pw_iload_n 1 rfl dX7_orderOnWay_11 rfl ?_
      refine pw_icmp_le 28 (by decide) dX7_orderOnWay_12 (by omega) (by omega) (fun c12 => ?_) (fun c12 => ?_)
      · skip
        refine pw_iload_n 2 rfl dX7_orderOnWay_28 rfl ?_
        refine pw_iret dX7_orderOnWay_29 rfl rfl ?_
        have ez : (l - k).toNat = 0 := by omega
        rw [hG, ez]; exact ⟨rfl, rfl, rfl⟩
      · skip
        refine pw_aload_n 0 rfl dX7_orderOnWay_15 rfl ?_
        refine pw_gR 3 127 dX7_orderOnWay_16 cOk7 (by assumption) (by decide) kw_559 (by decide) rfl ?_
        refine pw_iload_n 2 rfl dX7_orderOnWay_19 rfl ?_
        refine pw_iaload dX7_orderOnWay_20 (by assumption) (by omega) (by omega) (fun r20 => ?_)
        try simp (disch := omega) only [wr_s, wr_a, wr_k] at r20 ⊢
        rw [(hSR.2.2.1 o (by omega) (by omega)).2.2.2] at r20 ⊢
        refine pw_istore_n 2 rfl dX7_orderOnWay_21 (by decide) ?_
        refine pw_iinc dX7_orderOnWay_22 rfl (by decide) ?_
        refine pw_goto 10 (by decide) dX7_orderOnWay_25 ?_
        have hc := hSI.2.2.2.1 o ho.1 ho.2 (by omega)
        exact pw_locs _ rfl (ih (S 112 o) (l + -1) (by omega) (by omega) (by omega) (by rw [hG, show (l - k).toNat = (l + -1 - k).toNat + 1 by omega]; rfl))
  exact pw_locs _ rfl (lp10 1025 (S 88 36) (S 109 (S 108 (S 88 36))) (by omega) (by omega) (by omega) rfl)
set_option maxHeartbeats 4000000 in
set_option maxRecDepth 100000 in
theorem y_about (d : Nat) (hd : 1 ≤ d) (n : Nat) (ok : pO) (mem : pM) (hU : SUp n ok) (S : pM) (hSI : SIs S) (hSR : SRm S mem) (h15 : mem 123 15 = S 88 36) (w : Int) (hw : 0 ≤ w ∧ w ≤ 6) : PM mi_X7_about d [vr 123, vi w] n ok mem n (fun r ok' mem' => r = some (vi (if w = 0 then S 88 34 else if w = 1 then S 88 35 else if w = 2 then S 109 (S 108 (S 88 34 - 1)) + 1 else if w = 3 then mem 123 9 else if w = 4 then (if S 88 35 = S 88 34 then 1 else 0) else if w = 5 then (if mem 123 11 = 0 then 0 else 1) else S 108 0)) ∧ ok = ok' ∧ mem = mem') := by
  obtain ⟨hT7, ⟨q124, q125, q126, q127, q128, q129, q130⟩, hT6, q132, q133⟩ := id hU
  have hq1 := hSI.1
  refine PM.of (by decide) (by decide) (Nat.le_refl _) (Nat.le_of_ble_eq_true rfl) ?_
  refine pw_iload_n 1 rfl dX7_about_0 rfl ?_
  refine pw_tab1 (0) 40 dX7_about_1 (by omega) (by omega) (by omega) rfl rfl (fun c1 => ?_) (fun c1_0 => ?_)
  · skip
    refine pw_aload_n 0 rfl dX7_about_40 rfl ?_
    refine pw_gI 13 13 rfl dX7_about_41 cOk7 (by assumption) (by decide) kw_573 (by decide) (fun r41 => ?_)
    rw [hSR.1] at r41 ⊢
    refine pw_iret dX7_about_44 rfl rfl ?_
    refine ⟨congrArg (fun z => some (vi z)) ?_, rfl, rfl⟩
    (repeat' split) <;> first | rfl | omega | contradiction
  · skip
    refine pw_tab1 (1) 45 dX7_about_1 (by omega) (by omega) (by omega) rfl rfl (fun c1 => ?_) (fun c1_1 => ?_)
    · skip
      refine pw_aload_n 0 rfl dX7_about_45 rfl ?_
      refine pw_gI 14 14 rfl dX7_about_46 cOk7 (by assumption) (by decide) kw_575 (by decide) (fun r46 => ?_)
      rw [hSR.2.1] at r46 ⊢
      refine pw_iret dX7_about_49 rfl rfl ?_
      refine ⟨congrArg (fun z => some (vi z)) ?_, rfl, rfl⟩
      (repeat' split) <;> first | rfl | omega | contradiction
    · skip
      refine pw_tab1 (2) 50 dX7_about_1 (by omega) (by omega) (by omega) rfl rfl (fun c1 => ?_) (fun c1_2 => ?_)
      · skip
        refine pw_aload_n 0 rfl dX7_about_50 rfl ?_
        refine pw_gI 13 13 rfl dX7_about_51 cOk7 (by assumption) (by decide) kw_573 (by decide) (fun r51 => ?_)
        rw [hSR.1] at r51 ⊢
        refine pw_if_ne 61 (by decide) dX7_about_54 (by omega) (fun c54 => ?_) (fun c54 => ?_)
        · skip
          refine pw_aload_n 0 rfl dX7_about_61 rfl ?_
          refine pw_gR 1 125 dX7_about_62 cOk7 (by assumption) (by decide) kw_555 (by decide) rfl ?_
          refine pw_aload_n 0 rfl dX7_about_65 rfl ?_
          refine pw_gI 13 13 rfl dX7_about_66 cOk7 (by assumption) (by decide) kw_573 (by decide) (fun r66 => ?_)
          rw [hSR.1] at r66 ⊢
          refine pw_iconst dX7_about_69 ?_
          refine pw_isub dX7_about_70 ?_
          refine pw_iaload dX7_about_71 (by assumption) (by omega) (by omega) (fun r71 => ?_)
          rw [(hSR.2.2.1 _ (by omega) (by omega)).2.1] at r71 ⊢
          refine pw_iconst dX7_about_72 ?_
          refine pw_iadd dX7_about_73 ?_
          refine pw_iret dX7_about_74 rfl rfl ?_
          refine ⟨congrArg (fun z => some (vi z)) ?_, rfl, rfl⟩
          (repeat' split) <;> first | rfl | omega | contradiction
        · skip
          exfalso; omega
      · skip
        refine pw_tab1 (3) 75 dX7_about_1 (by omega) (by omega) (by omega) rfl rfl (fun c1 => ?_) (fun c1_3 => ?_)
        · skip
          refine pw_aload_n 0 rfl dX7_about_75 rfl ?_
          refine pw_gI 9 9 rfl dX7_about_76 cOk7 (by assumption) (by decide) kw_566 (by decide) (fun r76 => ?_)
          refine pw_iret dX7_about_79 rfl rfl ?_
          refine ⟨congrArg (fun z => some (vi z)) ?_, rfl, rfl⟩
          (repeat' split) <;> first | rfl | omega | contradiction
        · skip
          refine pw_tab1 (4) 80 dX7_about_1 (by omega) (by omega) (by omega) rfl rfl (fun c1 => ?_) (fun c1_4 => ?_)
          · skip
            refine pw_aload_n 0 rfl dX7_about_80 rfl ?_
            refine pw_callV (d' := d - 1) (As := []) (ci := 7) dX7_about_81 ok_X7_isWhole kw_880 rfl rfl (Of.o (by assumption)) (by omega) rfl (Nat.le_of_ble_eq_true rfl) (y_isWhole (d - 1) (by omega) n ok mem hU) (Nat.le_refl _) (Or.inl rfl) (fun r ok1 mem1 hq => ?_)
            obtain ⟨rfl, rfl, rfl⟩ := hq
            rw [hSR.1, hSR.2.1]
            refine pw_if_eq 91 (by decide) dX7_about_84 (by split <;> omega) (fun c84 => ?_) (fun c84 => ?_)
            · skip
              rw [bz_0] at c84
              refine pw_iconst dX7_about_91 ?_
              refine pw_iret dX7_about_92 rfl rfl ?_
              refine ⟨congrArg (fun z => some (vi z)) ?_, rfl, rfl⟩
              (repeat' split) <;> first | rfl | omega | contradiction
            · skip
              rw [bz_n] at c84
              refine pw_iconst dX7_about_87 ?_
              refine pw_goto 92 (by decide) dX7_about_88 ?_
              refine pw_iret dX7_about_92 rfl rfl ?_
              refine ⟨congrArg (fun z => some (vi z)) ?_, rfl, rfl⟩
              (repeat' split) <;> first | rfl | omega | contradiction
          · skip
            refine pw_tab1 (5) 93 dX7_about_1 (by omega) (by omega) (by omega) rfl rfl (fun c1 => ?_) (fun c1_5 => ?_)
            · skip
              refine pw_aload_n 0 rfl dX7_about_93 rfl ?_
              refine pw_gI 11 11 rfl dX7_about_94 cOk7 (by assumption) (by decide) kw_570 (by decide) (fun r94 => ?_)
              refine pw_if_eq 104 (by decide) dX7_about_97 (by omega) (fun c97 => ?_) (fun c97 => ?_)
              · skip
                refine pw_iconst dX7_about_104 ?_
                refine pw_iret dX7_about_105 rfl rfl ?_
                refine ⟨congrArg (fun z => some (vi z)) ?_, rfl, rfl⟩
                (repeat' split) <;> first | rfl | omega | contradiction
              · skip
                refine pw_iconst dX7_about_100 ?_
                refine pw_goto 105 (by decide) dX7_about_101 ?_
                refine pw_iret dX7_about_105 rfl rfl ?_
                refine ⟨congrArg (fun z => some (vi z)) ?_, rfl, rfl⟩
                (repeat' split) <;> first | rfl | omega | contradiction
            · skip
              refine pw_tableOut 106 dX7_about_1 (by omega) (by omega) rfl ?_
              refine pw_aload_n 0 rfl dX7_about_106 rfl ?_
              refine pw_gR 0 124 dX7_about_107 cOk7 (by assumption) (by decide) kw_553 (by decide) rfl ?_
              refine pw_iconst dX7_about_110 ?_
              refine pw_iaload dX7_about_111 (by assumption) (by omega) (by omega) (fun r111 => ?_)
              rw [(hSR.2.2.1 0 (by omega) (by omega)).1] at r111 ⊢
              refine pw_iret dX7_about_112 rfl rfl ?_
              refine ⟨congrArg (fun z => some (vi z)) ?_, rfl, rfl⟩
              (repeat' split) <;> first | rfl | omega | contradiction
set_option maxHeartbeats 4000000 in
set_option maxRecDepth 100000 in
theorem y_numberOfTraps (d : Nat) (hd : 0 ≤ d) (n : Nat) (ok : pO) (mem : pM) (hU : SUp n ok) (h13 : 0 ≤ mem 123 13 ∧ mem 123 13 ≤ 1024) : PM mi_X7_numberOfTraps d [vr 123] n ok mem n (fun r ok' mem' => r = some (vi (trN (mem 129) (mem 123 13).toNat)) ∧ ok = ok' ∧ mem = mem') := by
  obtain ⟨hT7, ⟨q124, q125, q126, q127, q128, q129, q130⟩, hT6, q132, q133⟩ := id hU
  refine PM.of (by decide) (by decide) (Nat.le_refl _) (Nat.le_of_ble_eq_true rfl) ?_
  refine pw_iconst dX7_numberOfTraps_0 ?_
  refine pw_istore_n 1 rfl dX7_numberOfTraps_1 (by decide) ?_
  refine pw_iconst dX7_numberOfTraps_2 ?_
  refine pw_istore_n 2 rfl dX7_numberOfTraps_3 (by decide) ?_
  have lp4 : ∀ (kz : Nat) (i : Nat) (y : Int), mem 123 13 - (i : Int) < (kz : Int) → ((i : Int) ≤ mem 123 13) → (y = trN (mem 129) i) → PW mi_X7_numberOfTraps d n n (fun r ok' mem' => r = some (vi (trN (mem 129) (mem 123 13).toNat)) ∧ ok = ok' ∧ mem = mem') 4 [(0, vr 123), (1, vi y), (2, vi (i : Int))] [] n ok mem := by
    intro kz
    induction kz with
    | zero =>
      intro i y hk h1 h2
      exact absurd hk (by omega)
    | succ kz ih =>
      intro i y hk h1 h2
      have hp := trN_ran (mem 129) i
      refine pw_iload_n 2 rfl dX7_numberOfTraps_4 rfl ?_
      refine pw_aload_n 0 rfl dX7_numberOfTraps_5 rfl ?_
      refine pw_gI 13 13 rfl dX7_numberOfTraps_6 cOk7 (by assumption) (by decide) kw_573 (by decide) (fun r6 => ?_)
      try simp (disch := omega) only [wr_s, wr_a, wr_k] at r6 ⊢
      refine pw_icmp_ge 31 (by decide) dX7_numberOfTraps_9 (by omega) (by omega) (fun c9 => ?_) (fun c9 => ?_)
      · skip
        refine pw_iload_n 1 rfl dX7_numberOfTraps_31 rfl ?_
        refine pw_iret dX7_numberOfTraps_32 rfl rfl ?_
        have e9 : i = (mem 123 13).toNat := by omega
        rw [h2, e9]; exact ⟨rfl, rfl, rfl⟩
      · skip
        refine pw_aload_n 0 rfl dX7_numberOfTraps_12 rfl ?_
        refine pw_gR 5 129 dX7_numberOfTraps_13 cOk7 (by assumption) (by decide) kw_561 (by decide) rfl ?_
        refine pw_iload_n 2 rfl dX7_numberOfTraps_16 rfl ?_
        refine pw_iaload dX7_numberOfTraps_17 (by assumption) (by omega) (by omega) (fun r17 => ?_)
        try simp (disch := omega) only [wr_s, wr_a, wr_k] at r17 ⊢
        refine pw_iconst dX7_numberOfTraps_18 ?_
        refine pw_icmp_ne 25 (by decide) dX7_numberOfTraps_19 (by omega) (by omega) (fun c19 => ?_) (fun c19 => ?_)
        · skip
          refine pw_iinc dX7_numberOfTraps_25 rfl (by decide) ?_
          refine pw_goto 4 (by decide) dX7_numberOfTraps_28 ?_
          exact pw_locs _ rfl (ih (i + 1) y (by omega) (by omega) (by subst h2; show _ = trN (mem 129) i + _; rw [if_neg c19, Int.add_zero]))
        · skip
          refine pw_iinc dX7_numberOfTraps_22 rfl (by decide) ?_
          refine pw_iinc dX7_numberOfTraps_25 rfl (by decide) ?_
          refine pw_goto 4 (by decide) dX7_numberOfTraps_28 ?_
          exact pw_locs _ rfl (ih (i + 1) (y + 1) (by omega) (by omega) (by subst h2; show _ = trN (mem 129) i + _; rw [if_pos (by omega)]))
  exact pw_locs _ rfl (lp4 1025 0 0 (by omega) (by omega) rfl)
set_option maxHeartbeats 4000000 in
set_option maxRecDepth 100000 in
theorem y_queue (d : Nat) (hd : 1 ≤ d) (n : Nat) (ok : pO) (mem : pM) (hU : SUp n ok) (S : pM) (h13 : mem 123 13 = (S 88 34)) (hN4 : 1 ≤ (S 88 34) ∧ (S 88 34) ≤ 1024) (hw : S 88 35 = S 88 34) (hRD : RDx (Ex S (S 88 35) 0) mem) (q e a : Int) (hq9 : 0 ≤ q ∧ q < 1024) (hBF : BF (Ex S (S 88 35) 0) (S 111) (S 88 34) (mem 129) (mem 130) a e) (hae : a < e ∧ mem 130 a = q) : PM mi_X7_queueThoseBefore d [vr 123, vi q, vi e] n ok mem n (fun r ok' mem' => ∃ e2 : Int, r = some (vi e2) ∧ ok = ok' ∧ BF (Ex S (S 88 35) 0) (S 111) (S 88 34) (mem' 129) (mem' 130) a e2 ∧ a < e2 ∧ mem' 130 a = q ∧ (∀ o, 0 ≤ o → o < (S 88 34) → (Ex S (S 88 35) 0) o q → mem' 129 o ≠ -1) ∧ ∀ x, x ≠ 129 → x ≠ 130 → mem' x = mem x) := by
  obtain ⟨hT7, ⟨q124, q125, q126, q127, q128, q129, q130⟩, hT6, q132, q133⟩ := id hU
  refine PM.of (by decide) (by decide) (Nat.le_refl _) (Nat.le_of_ble_eq_true rfl) ?_
  refine pw_iload_n 2 rfl dX7_queueThoseBefore_0 rfl ?_
  refine pw_istore_n 3 rfl dX7_queueThoseBefore_1 (by decide) ?_
  refine pw_aload_n 0 rfl dX7_queueThoseBefore_2 rfl ?_
  refine pw_gR 7 131 dX7_queueThoseBefore_3 cOk7 (by assumption) (by decide) kw_564 (by decide) rfl ?_
  refine pw_iload_n 1 rfl dX7_queueThoseBefore_6 rfl ?_
  refine pw_callV (d' := d - 1) (As := [_]) (ci := 6) dX7_queueThoseBefore_7 ok_X6_latestTo kw_926 rfl rfl (Of.o (by assumption)) (by omega) rfl (Nat.le_of_ble_eq_true rfl) (x_latestTo (d - 1) (by omega) n ok mem hU q (by omega)) (Nat.le_refl _) (Or.inl rfl) (fun r ok1 mem1 hq => ?_)
  obtain ⟨rfl, rfl, rfl⟩ := hq
  obtain ⟨T, hT1, hT2, hT3, hT4, hT5⟩ := id hRD
  have hPE := hT3.1 q (by omega) (by omega)
  have hPr : -1 ≤ mem 132 q ∧ mem 132 q < mem 131 2 := by rcases hPE with z | z <;> omega
  have hTo0 : mem 132 q ≠ -1 → T (mem 132 q) = q := fun w => by rcases hPE with z | z; exact absurd z.1 w; exact z.2.2.1
  have hfr : ∀ i, 0 ≤ i → i < mem 131 2 → 0 ≤ rF mem i ∧ rF mem i < (S 88 34) := fun i i1 i2 => by
    have := (hT2 i i1 i2).2.2
    obtain ⟨z1, z2, z3, i9, y1, y2, y3, y4⟩ := this
    omega
  have hD0 : ∀ i, mem 132 q < i → i < mem 131 2 → T i = q → mem 129 (rF mem i) ≠ -1 := fun i i1 i2 i3 => by
    rcases hPE with z | z
    · exact absurd i3 (z.2 i (by omega) i2)
    · exact absurd i3 (z.2.2.2 i i1 i2)
  refine pw_istore dX7_queueThoseBefore_10 (by decide) ?_
  refine pw_iconst dX7_queueThoseBefore_12 ?_
  refine pw_istore dX7_queueThoseBefore_13 (by decide) ?_
  have lp15 : ∀ (kz : Nat) (i : Nat) (g e2 : Int) (m1 : pM), g + 1 < (kz : Int) → ((i : Int) ≤ (S 88 34)) → (-1 ≤ g ∧ g < mem 131 2) → (g ≠ -1 → T g = q ∧ rF mem g + i + 1 ≤ (S 88 34)) → (BF (Ex S (S 88 35) 0) (S 111) (S 88 34) (m1 129) (m1 130) a e2) → (a < e2 ∧ m1 130 a = q) → (∀ i, g < i → i < mem 131 2 → T i = q → m1 129 (rF mem i) ≠ -1) → (∀ x, x ≠ 129 → x ≠ 130 → m1 x = mem x) → PW mi_X7_queueThoseBefore d n n (fun r ok' mem' => ∃ e2 : Int, r = some (vi e2) ∧ ok = ok' ∧ BF (Ex S (S 88 35) 0) (S 111) (S 88 34) (mem' 129) (mem' 130) a e2 ∧ a < e2 ∧ mem' 130 a = q ∧ (∀ o, 0 ≤ o → o < (S 88 34) → (Ex S (S 88 35) 0) o q → mem' 129 o ≠ -1) ∧ ∀ x, x ≠ 129 → x ≠ 130 → mem' x = mem x) 15 [(0, vr 123), (1, vi q), (2, vi e), (3, vi e2), (4, vi g), (5, vi (i : Int))] [] n ok m1 := by
    intro kz
    induction kz with
    | zero =>
      intro i g e2 m1 hk hi9 hg hTo hB hae hD hFr
      exact absurd hk (by omega)
    | succ kz ih =>
      intro i g e2 m1 hk hi9 hg hTo hB hae hD hFr
      have g13 : m1 123 13 = (S 88 34) := by rw [hFr 123 (by omega) (by omega)]; exact h13
      have g133 : m1 133 = mem 133 := hFr 133 (by omega) (by omega)
      have hB1 := hB.1
      have hae1 := hae.1
      have hae2 := hae.2
      have erF : ∀ i, rF m1 i = rF mem i := fun i => by unfold rF; rw [g133]
      have erN : ∀ i, rN m1 i = rN mem i := fun i => by unfold rN; rw [g133]
      refine pw_iload dX7_queueThoseBefore_15 rfl ?_
      refine pw_aload_n 0 rfl dX7_queueThoseBefore_17 rfl ?_
      refine pw_gI 13 13 rfl dX7_queueThoseBefore_18 cOk7 (by assumption) (by decide) kw_573 (by decide) (fun r18 => ?_)
      try simp (disch := omega) only [wr_s, wr_a, wr_k] at r18 ⊢
      rw [g13] at r18 ⊢
      refine pw_icmp_ge 102 (by decide) dX7_queueThoseBefore_21 (by omega) (by omega) (fun c21 => ?_) (fun c21 => ?_)
      · skip
        have eg : g = -1 := by
          by_cases w : g = -1
          · exact w
          · have h1 := hTo w
            have h2 := hfr g (by omega) hg.2
            omega
        subst eg
        refine pw_iload_n 3 rfl dX7_queueThoseBefore_102 rfl ?_
        refine pw_iret dX7_queueThoseBefore_103 rfl rfl ?_
        refine ⟨e2, rfl, rfl, hB, hae1, hae2, fun o o1 o2 o3 => ?_, hFr⟩
        obtain ⟨i9, y1, y2, y3, y4⟩ := hT5 o q o3
        have := hD i9 (by omega) y2 y4
        rw [y3] at this; exact this
      · skip
        refine pw_iload dX7_queueThoseBefore_24 rfl ?_
        refine pw_iconst dX7_queueThoseBefore_26 ?_
        refine pw_icmp_eq 102 (by decide) dX7_queueThoseBefore_27 (by omega) (by omega) (fun c27 => ?_) (fun c27 => ?_)
        · skip
          have eg : g = -1 := c27
          subst eg
          refine pw_iload_n 3 rfl dX7_queueThoseBefore_102 rfl ?_
          refine pw_iret dX7_queueThoseBefore_103 rfl rfl ?_
          refine ⟨e2, rfl, rfl, hB, hae1, hae2, fun o o1 o2 o3 => ?_, hFr⟩
          obtain ⟨i9, y1, y2, y3, y4⟩ := hT5 o q o3
          have := hD i9 (by omega) y2 y4
          rw [y3] at this; exact this
        · skip
          have hTg := hTo c27
          have hgf := hfr g (by omega) hg.2
          have hg9 := hT2 g (by omega) hg.2
          have hPn := hT3.2 g (by omega) hg.2 (by omega)
          rw [hTg.1] at hPn
          have hPr2 : -1 ≤ rN mem g ∧ rN mem g < g := by rcases hPn with z | z <;> omega
          have hT9 : rN mem g ≠ -1 → T (rN mem g) = q ∧ rF mem (rN mem g) + ((i + 1 : Nat) : Int) + 1 ≤ (S 88 34) := fun w => by
            rcases hPn with z | z
            · exact absurd z.1 w
            · have h4 := (hT4 (rN mem g) g z.1 hPr2.2 hg.2).2 (by rw [z.2.2.1, hTg.1])
              exact ⟨z.2.2.1, by omega⟩
          have hB2 : ∀ i2, rN mem g < i2 → i2 < g → T i2 ≠ q := fun i2 z1 z2 => by
            rcases hPn with z | z
            · exact z.2 i2 (by omega) z2
            · exact z.2.2.2 i2 z1 z2
          refine pw_aload_n 0 rfl dX7_queueThoseBefore_30 rfl ?_
          refine pw_gR 7 131 dX7_queueThoseBefore_31 cOk7 (by assumption) (by decide) kw_564 (by decide) rfl ?_
          refine pw_iload dX7_queueThoseBefore_34 rfl ?_
          refine pw_callV (d' := d - 1) (As := [_]) (ci := 6) dX7_queueThoseBefore_36 ok_X6_from kw_930 rfl rfl (Of.o (by assumption)) (by omega) rfl (Nat.le_of_ble_eq_true rfl) (x_from (d - 1) (by omega) n ok m1 hU g (by omega) (by rw [g133]; omega)) (Nat.le_refl _) (Or.inl rfl) (fun r ok1 mem1 hq => ?_)
          obtain ⟨rfl, rfl, rfl⟩ := hq
          rw [erF]
          refine pw_istore dX7_queueThoseBefore_39 (by decide) ?_
          refine pw_aload_n 0 rfl dX7_queueThoseBefore_41 rfl ?_
          refine pw_gR 5 129 dX7_queueThoseBefore_42 cOk7 (by assumption) (by decide) kw_561 (by decide) rfl ?_
          refine pw_iload dX7_queueThoseBefore_45 rfl ?_
          refine pw_iaload dX7_queueThoseBefore_47 (by assumption) (by omega) (by omega) (fun r47 => ?_)
          try simp (disch := omega) only [wr_s, wr_a, wr_k] at r47 ⊢
          refine pw_iconst dX7_queueThoseBefore_48 ?_
          refine pw_icmp_ne 85 (by decide) dX7_queueThoseBefore_49 (by omega) (by omega) (fun c49 => ?_) (fun c49 => ?_)
          · skip
            refine pw_aload_n 0 rfl dX7_queueThoseBefore_85 rfl ?_
            refine pw_gR 7 131 dX7_queueThoseBefore_86 cOk7 (by assumption) (by decide) kw_564 (by decide) rfl ?_
            refine pw_iload dX7_queueThoseBefore_89 rfl ?_
            refine pw_callV (d' := d - 1) (As := [_]) (ci := 6) dX7_queueThoseBefore_91 ok_X6_before kw_931 rfl rfl (Of.o (by assumption)) (by omega) rfl (Nat.le_of_ble_eq_true rfl) (x_before (d - 1) (by omega) n ok _ hU g (by omega) (by rw [g133]; omega)) (Nat.le_refl _) (Or.inl rfl) (fun r ok1 mem1 hq => ?_)
            obtain ⟨rfl, rfl, rfl⟩ := hq
            rw [erN]
            refine pw_istore dX7_queueThoseBefore_94 (by decide) ?_
            refine pw_iinc dX7_queueThoseBefore_96 rfl (by decide) ?_
            refine pw_goto 15 (by decide) dX7_queueThoseBefore_99 ?_
            have hD2 : ∀ i, rN mem g < i → i < mem 131 2 → T i = q → m1 129 (rF mem i) ≠ -1 := fun i2 z1 z2 z3 => by
              by_cases w : i2 = g
              · rw [w]; exact c49
              · by_cases w2 : g < i2
                · exact hD i2 w2 z2 z3
                · exact absurd z3 (hB2 i2 z1 (by omega))
            exact pw_locs _ rfl (ih (i + 1) (rN mem g) e2 m1 (by omega) (by omega) (by omega) hT9 hB hae hD2 hFr)
          · skip
            have c49 : m1 129 (rF mem g) = -1 := by omega
            have hPu := BF_push hB hae1 hgf.1 hgf.2 c49 (by have := hg9.2.2; rw [hTg.1] at this; rw [hae2]; exact this)
            have hmax : m1 129 q ≤ 1024 := by have := BF_cap hB a.toNat (by omega); rw [Int.toNat_of_nonneg (by omega), hae2] at this; omega
            have hq0 := hB.2.1 a (by omega) hae1
            rw [hae2] at hq0
            refine pw_iload_n 3 rfl dX7_queueThoseBefore_52 rfl ?_
            refine pw_sipush dX7_queueThoseBefore_53 (by decide) ?_
            refine pw_icmp_ge 85 (by decide) dX7_queueThoseBefore_56 (by omega) (by omega) (fun c56 => ?_) (fun c56 => ?_)
            · skip
              exfalso; omega
            · skip
              refine pw_aload_n 0 rfl dX7_queueThoseBefore_59 rfl ?_
              refine pw_gR 5 129 dX7_queueThoseBefore_60 cOk7 (by assumption) (by decide) kw_561 (by decide) rfl ?_
              refine pw_iload dX7_queueThoseBefore_63 rfl ?_
              refine pw_aload_n 0 rfl dX7_queueThoseBefore_65 rfl ?_
              refine pw_gR 5 129 dX7_queueThoseBefore_66 cOk7 (by assumption) (by decide) kw_561 (by decide) rfl ?_
              refine pw_iload_n 1 rfl dX7_queueThoseBefore_69 rfl ?_
              refine pw_iaload dX7_queueThoseBefore_70 (by assumption) (by omega) (by omega) (fun r70 => ?_)
              try simp (disch := omega) only [wr_s, wr_a, wr_k] at r70 ⊢
              refine pw_iconst dX7_queueThoseBefore_71 ?_
              refine pw_iadd dX7_queueThoseBefore_72 ?_
              refine pw_iastore dX7_queueThoseBefore_73 (by assumption) (by omega) (by omega) (by omega) ?_
              refine pw_aload_n 0 rfl dX7_queueThoseBefore_74 rfl ?_
              refine pw_gR 6 130 dX7_queueThoseBefore_75 cOk7 (by assumption) (by decide) kw_563 (by decide) rfl ?_
              refine pw_iload_n 3 rfl dX7_queueThoseBefore_78 rfl ?_
              refine pw_iload dX7_queueThoseBefore_79 rfl ?_
              refine pw_iastore dX7_queueThoseBefore_81 (by assumption) (by omega) (by omega) (by omega) ?_
              obtain ⟨m4, em4⟩ : ∃ x, x = wr (wr m1 129 (rF mem g) (m1 129 q + 1)) 130 e2 (rF mem g) := ⟨_, rfl⟩
              rw [← em4]
              have f129 : m4 129 = vUp (m1 129) (rF mem g) (m1 129 q + 1) := by rw [em4, wr_a _ _ _ (by omega), wr_f]
              have f130 : m4 130 = vUp (m1 130) e2 (rF mem g) := by rw [em4, wr_f, wr_a _ _ _ (by omega)]
              have k133 : m4 133 = mem 133 := by rw [em4, wr_a _ _ _ (by omega), wr_a _ _ _ (by omega)]; exact g133
              have k13 : rN m4 g = rN mem g := by unfold rN; rw [k133]
              rw [hae2] at hPu
              refine pw_iinc dX7_queueThoseBefore_82 rfl (by decide) ?_
              refine pw_aload_n 0 rfl dX7_queueThoseBefore_85 rfl ?_
              refine pw_gR 7 131 dX7_queueThoseBefore_86 cOk7 (by assumption) (by decide) kw_564 (by decide) rfl ?_
              refine pw_iload dX7_queueThoseBefore_89 rfl ?_
              refine pw_callV (d' := d - 1) (As := [_]) (ci := 6) dX7_queueThoseBefore_91 ok_X6_before kw_931 rfl rfl (Of.o (by assumption)) (by omega) rfl (Nat.le_of_ble_eq_true rfl) (x_before (d - 1) (by omega) n ok _ hU g (by omega) (by rw [k133]; omega)) (Nat.le_refl _) (Or.inl rfl) (fun r ok1 mem1 hq => ?_)
              obtain ⟨rfl, rfl, rfl⟩ := hq
              rw [k13]
              refine pw_istore dX7_queueThoseBefore_94 (by decide) ?_
              refine pw_iinc dX7_queueThoseBefore_96 rfl (by decide) ?_
              refine pw_goto 15 (by decide) dX7_queueThoseBefore_99 ?_
              have hD2 : ∀ i, rN mem g < i → i < mem 131 2 → T i = q → m4 129 (rF mem i) ≠ -1 := fun i2 z1 z2 z3 => by
                rw [f129]
                unfold vUp
                by_cases w : rF mem i2 = rF mem g
                · rw [if_pos w]; omega
                · rw [if_neg w]
                  by_cases w2 : g < i2
                  · exact hD i2 w2 z2 z3
                  · have w3 : i2 ≠ g := fun y => w (by rw [y])
                    exact absurd z3 (hB2 i2 z1 (by omega))
              exact pw_locs _ rfl (ih (i + 1) (rN mem g) (e2 + 1) m4 (by omega) (by omega) (by omega) hT9 (by rw [f129, f130]; exact hPu.2) ⟨by omega, by rw [f130]; exact (if_neg (by omega)).trans hae2⟩ hD2 (fun x h1 h2 => by rw [em4, wr_a _ _ _ h2, wr_a _ _ _ h1]; exact hFr x h1 h2))
  exact pw_locs _ rfl (lp15 12290 0 (mem 132 q) e mem (by omega) (by omega) hPr (fun w => ⟨hTo0 w, by have := hfr _ (by omega) hPr.2; omega⟩) hBF (by omega) hD0 (fun _ _ _ => rfl))
set_option maxHeartbeats 4000000 in
set_option maxRecDepth 100000 in
theorem y_measure (d : Nat) (hd : 2 ≤ d) (n : Nat) (ok : pO) (mem : pM) (hU : SUp n ok) (S : pM) (hSI : SIs S) (hSG : SRG S mem) (hw : S 88 35 = S 88 34) : PM mi_X7_measure d [vr 123] n ok mem n (fun r ok' mem' => r = none ∧ ok = ok' ∧ mem' 123 12 ≠ 0 ∧ SpF (rdR S) (S 111) (S 88 34) (mem' 129) ∧ (∀ x, x ≠ 123 → x ≠ 129 → x ≠ 130 → mem' x = mem x) ∧ ∀ k, k ≠ 12 → mem' 123 k = mem 123 k) := by
  obtain ⟨hT7, ⟨q124, q125, q126, q127, q128, q129, q130⟩, hT6, q132, q133⟩ := id hU
  refine PM.of (by decide) (by decide) (Nat.le_refl _) (Nat.le_of_ble_eq_true rfl) ?_
  refine pw_aload_n 0 rfl dX7_measure_0 rfl ?_
  refine pw_gI 12 12 rfl dX7_measure_1 cOk7 (by assumption) (by decide) kw_572 (by decide) (fun r1 => ?_)
  refine pw_if_eq 8 (by decide) dX7_measure_4 (by omega) (fun c4 => ?_) (fun c4 => ?_)
  · skip
    have hFA : FA S mem (S 88 34) := by rcases hSG.2.2.2.2 with z | z; exact z.2; exact absurd c4 z.1
    have hq1 := hSI.1
    refine pw_aload_n 0 rfl dX7_measure_8 rfl ?_
    refine pw_iconst dX7_measure_9 ?_
    refine pw_pZ 12 12 rfl dX7_measure_10 cOk7 (by assumption) (by decide) kw_572 rfl rfl (by decide) (by omega) ?_
    obtain ⟨m0, em0⟩ : ∃ y, y = wr mem 123 12 1 := ⟨_, rfl⟩
    rw [← em0]
    have g0 : ∀ a, a ≠ 123 → m0 a = mem a := fun a ha => by rw [em0]; exact wr_a _ _ _ ha
    have f0 : ∀ k, k ≠ 12 → m0 123 k = mem 123 k := fun k hk => by rw [em0]; exact wr_k _ _ _ _ hk
    have f12 : m0 123 12 = 1 := by rw [em0, wr_s]
    refine pw_iconst dX7_measure_13 ?_
    refine pw_istore_n 1 rfl dX7_measure_14 (by decide) ?_
    refine pw_iconst dX7_measure_15 ?_
    refine pw_istore_n 2 rfl dX7_measure_16 (by decide) ?_
    have lp17 : ∀ (kz : Nat) (i : Nat) (e : Int) (m1 : pM), (S 88 34) - (i : Int) < (kz : Int) → ((i : Int) ≤ (S 88 34)) → (BI (S 111) (S 88 34) (m1 130) (i : Int) e) → (∀ x, x ≠ 130 → m1 x = m0 x) → PW mi_X7_measure d n n (fun r ok' mem' => r = none ∧ ok = ok' ∧ mem' 123 12 ≠ 0 ∧ SpF (rdR S) (S 111) (S 88 34) (mem' 129) ∧ (∀ x, x ≠ 123 → x ≠ 129 → x ≠ 130 → mem' x = mem x) ∧ ∀ k, k ≠ 12 → mem' 123 k = mem 123 k) 17 [(0, vr 123), (1, vi e), (2, vi (i : Int))] [] n ok m1 := by
      intro kz
      induction kz with
      | zero =>
        intro i e m1 hk h1 hB hFr
        exact absurd hk (by omega)
      | succ kz ih =>
        intro i e m1 hk h1 hB hFr
        have g13 : m1 123 13 = (S 88 34) := by rw [hFr 123 (by omega), f0 13 (by omega)]; exact hSG.1.1
        have g129 : m1 129 = mem 129 := by rw [hFr _ (by omega), g0 _ (by omega)]
        have hB1 := hB.1
        refine pw_iload_n 2 rfl dX7_measure_17 rfl ?_
        refine pw_aload_n 0 rfl dX7_measure_18 rfl ?_
        refine pw_gI 13 13 rfl dX7_measure_19 cOk7 (by assumption) (by decide) kw_573 (by decide) (fun r19 => ?_)
        try simp (disch := omega) only [wr_s, wr_a, wr_k] at r19 ⊢
        rw [g13] at r19 ⊢
        refine pw_icmp_ge 50 (by decide) dX7_measure_22 (by omega) (by omega) (fun c22 => ?_) (fun c22 => ?_)
        · skip
          have eI : (i : Int) = (S 88 34) := by omega
          rw [eI] at hB
          have hBF := BI_BF (Ex S (S 88 35) 0) hB (F := m1 129) (fun o o1 o2 => by rw [g129]; exact hFA o o1 o2)
          have hFr1 : ∀ x, x ≠ 123 → x ≠ 129 → x ≠ 130 → m1 x = mem x := fun x a1 a2 a3 => by rw [hFr x a3, g0 x a1]
          have hK1 : ∀ k, k ≠ 12 → m1 123 k = mem 123 k := fun k hk => by rw [hFr _ (by omega), f0 k hk]
          have hK12 : m1 123 12 = 1 := by rw [hFr _ (by omega), f12]
          refine pw_iconst dX7_measure_50 ?_
          refine pw_istore_n 2 rfl dX7_measure_51 (by decide) ?_
          have lp52 : ∀ (kz2 : Nat) (i : Nat) (e : Int) (m1 : pM), (S 88 34) - (i : Int) < (kz2 : Int) → (BF (Ex S (S 88 35) 0) (S 111) (S 88 34) (m1 129) (m1 130) (i : Int) e) → (∀ x, x ≠ 123 → x ≠ 129 → x ≠ 130 → m1 x = mem x) → (∀ k, k ≠ 12 → m1 123 k = mem 123 k) → (m1 123 12 = 1) → PW mi_X7_measure d n n (fun r ok' mem' => r = none ∧ ok = ok' ∧ mem' 123 12 ≠ 0 ∧ SpF (rdR S) (S 111) (S 88 34) (mem' 129) ∧ (∀ x, x ≠ 123 → x ≠ 129 → x ≠ 130 → mem' x = mem x) ∧ ∀ k, k ≠ 12 → mem' 123 k = mem 123 k) 52 [(0, vr 123), (1, vi e), (2, vi (i : Int))] [] n ok m1 := by
            intro kz2
            induction kz2 with
            | zero =>
              intro i e m1 hk2 hB hFr1 hK1 hK12
              exact absurd hk2 (by have := hB.1; omega)
            | succ kz2 ih2 =>
              intro i e m1 hk2 hB hFr1 hK1 hK12
              have hB1 := hB.1
              refine pw_iload_n 2 rfl dX7_measure_52 rfl ?_
              refine pw_iload_n 1 rfl dX7_measure_53 rfl ?_
              refine pw_icmp_ge 82 (by decide) dX7_measure_54 (by omega) (by omega) (fun c54 => ?_) (fun c54 => ?_)
              · skip
                have eI : (i : Int) = e := by omega
                rw [eI] at hB
                have hEnd := BF_end hB
                refine pw_vret dX7_measure_82 rfl rfl ?_
                refine ⟨rfl, rfl, by rw [hK12]; omega, ?_, hFr1, hK1⟩
                refine SpF.r hEnd (fun o q o1 o2 q1 q2 q3 => ?_)
                constructor
                · rintro ⟨z1, z2, z3, i9, y1, y2, y3, y4⟩; exact ⟨i9, y1, y2, y4⟩
                · rintro ⟨i9, y1, y2, y4⟩; exact ⟨q3, o1, q1, i9, y1, y2, Or.inl (by omega), y4⟩
              · skip
                have hQ := hB.2.1 i (by omega) (by omega)
                refine pw_iload_n 2 rfl dX7_measure_57 rfl ?_
                refine pw_sipush dX7_measure_58 (by decide) ?_
                refine pw_icmp_ge 82 (by decide) dX7_measure_61 (by omega) (by omega) (fun c61 => ?_) (fun c61 => ?_)
                · skip
                  exfalso; omega
                · skip
                  refine pw_aload_n 0 rfl dX7_measure_64 rfl ?_
                  refine pw_aload_n 0 rfl dX7_measure_65 rfl ?_
                  refine pw_gR 6 130 dX7_measure_66 cOk7 (by assumption) (by decide) kw_563 (by decide) rfl ?_
                  refine pw_iload_n 2 rfl dX7_measure_69 rfl ?_
                  refine pw_iaload dX7_measure_70 (by assumption) (by omega) (by omega) (fun r70 => ?_)
                  try simp (disch := omega) only [wr_s, wr_a, wr_k] at r70 ⊢
                  refine pw_iload_n 1 rfl dX7_measure_71 rfl ?_
                  refine pw_callV (d' := d - 1) (As := [_, _]) (ci := 7) dX7_measure_72 ok_X7_queueThoseBefore kw_922 rfl rfl (Of.o (by assumption)) (by omega) rfl (Nat.le_of_ble_eq_true rfl) (y_queue (d - 1) (by omega) n ok m1 hU S (by rw [hK1 13 (by omega)]; exact hSG.1.1) (by omega) hw (hSG.2.2.1.m (by rw [hFr1 131 (by omega) (by omega) (by omega)]) (hFr1 _ (by omega) (by omega) (by omega)) (hFr1 _ (by omega) (by omega) (by omega))) (m1 130 i) e (i : Int) (by omega) hB ⟨by omega, rfl⟩) (Nat.le_refl _) (Or.inl rfl) (fun r9 ok1 m2 hq => ?_)
                  obtain ⟨e2, rfl, rfl, hB2, hae2, hq2, hdone, hF2⟩ := hq
                  refine pw_istore_n 1 rfl dX7_measure_75 (by decide) ?_
                  refine pw_iinc dX7_measure_76 rfl (by decide) ?_
                  refine pw_goto 52 (by decide) dX7_measure_79 ?_
                  have hnx := BF_next hB2 hae2 (fun o o1 o2 o3 => hdone o o1 o2 (by rw [hq2] at o3; exact o3))
                  exact pw_locs _ rfl (ih2 (i + 1) e2 m2 (by omega) hnx (fun x a1 a2 a3 => by rw [hF2 x a2 a3]; exact hFr1 x a1 a2 a3) (fun k hk => by rw [hF2 _ (by omega) (by omega)]; exact hK1 k hk) (by rw [hF2 _ (by omega) (by omega)]; exact hK12))
          exact pw_locs _ rfl (lp52 1025 0 e m1 (by omega) hBF hFr1 hK1 hK12)
        · skip
          refine pw_aload_n 0 rfl dX7_measure_25 rfl ?_
          refine pw_gR 5 129 dX7_measure_26 cOk7 (by assumption) (by decide) kw_561 (by decide) rfl ?_
          refine pw_iload_n 2 rfl dX7_measure_29 rfl ?_
          refine pw_iaload dX7_measure_30 (by assumption) (by omega) (by omega) (fun r30 => ?_)
          try simp (disch := omega) only [wr_s, wr_a, wr_k] at r30 ⊢
          rw [g129] at r30 ⊢
          have hfi := hFA i (by omega) (by omega)
          refine pw_if_ne 44 (by decide) dX7_measure_31 (by omega) (fun c31 => ?_) (fun c31 => ?_)
          · skip
            have hop : S 111 i = 0 := by
              by_cases q : S 111 i ≠ 0
              · rw [if_pos q] at hfi; exact absurd hfi c31
              · omega
            refine pw_iinc dX7_measure_44 rfl (by decide) ?_
            refine pw_goto 17 (by decide) dX7_measure_47 ?_
            exact pw_locs _ rfl (ih (i + 1) e m1 (by omega) (by omega) (BI_no hB (by omega) hop) hFr)
          · skip
            have hop : S 111 i ≠ 0 := fun q => by rw [if_neg (fun z => z q)] at hfi; omega
            refine pw_aload_n 0 rfl dX7_measure_34 rfl ?_
            refine pw_gR 6 130 dX7_measure_35 cOk7 (by assumption) (by decide) kw_563 (by decide) rfl ?_
            refine pw_iload_n 1 rfl dX7_measure_38 rfl ?_
            refine pw_iload_n 2 rfl dX7_measure_39 rfl ?_
            refine pw_iastore dX7_measure_40 (by assumption) (by omega) (by omega) (by omega) ?_
            refine pw_iinc dX7_measure_41 rfl (by decide) ?_
            refine pw_iinc dX7_measure_44 rfl (by decide) ?_
            refine pw_goto 17 (by decide) dX7_measure_47 ?_
            exact pw_locs _ rfl (ih (i + 1) (e + 1) _ (by omega) (by omega) (by rw [wr_f]; exact BI_yes hB (by omega) hop) (fun x hx => by rw [wr_a _ _ _ hx]; exact hFr x hx))
    exact pw_locs _ rfl (lp17 1025 0 0 m0 (by omega) (by omega) (BI_0 (by omega)) (fun _ _ => rfl))
  · skip
    refine pw_vret dX7_measure_7 rfl rfl ?_
    rcases hSG.2.2.2.2 with z | z
    · exact absurd z.1 c4
    · exact ⟨rfl, rfl, c4, z.2.2, fun _ _ _ _ => rfl, fun _ _ => rfl⟩
set_option maxHeartbeats 4000000 in
set_option maxRecDepth 100000 in
theorem y_moveNearer (d : Nat) (hd : 5 ≤ d) (n : Nat) (ok : pO) (mem : pM) (hN : NUp n ok) (b : Nat) (hC : ChUp n ok b) (A : pM) (c : Int) (v : Int → Int) (hI : cIn A c) (hS : CS A c mem b) (hV : CV A c mem b v) (hv : pOkv A c v) (hU : SUp n ok) (hch : mem 123 8 = (b : Int)) (S : pM) (hSI : SIs S) (hGI : GI A c S) (hSR : SRm S mem) (hw : S 88 35 = S 88 34) (hSp : SpF (rdR S) (S 111) (S 88 34) (mem 129)) (ht : 0 ≤ mem 2 1 ∧ mem 2 1 ≤ 600000000) : PM mi_X7_moveNearer d [vr 123] n ok mem n (fun r ok' mem' => r = some (vi (if S 109 (numV A c v 16) = -1 ∨ mem 129 (S 110 (numV A c v 16)) < 1 then -1 else fj S (mem 129) (S 110 (numV A c v 16)) 38 0)) ∧ ok = ok' ∧ Fr2 b mem mem' ∧ CV A c mem' b v) := by
  obtain ⟨hN5, hN3⟩ := id hN
  obtain ⟨hC0, ⟨hC1, hC2, hC3, hC4, hC5, hC6, hC7⟩, hC8, ⟨hC9, hC10, hC11, hC12, hC13, hC14, hC15⟩, hC16, hC17, hb5, hb59⟩ := id hC
  obtain ⟨hR, hD, hSo⟩ := id hS
  have hOk := hI.ok
  obtain ⟨hT7, ⟨q124, q125, q126, q127, q128, q129, q130⟩, hT6, q132, q133⟩ := id hU
  refine PM.of (by decide) (by decide) (Nat.le_refl _) (Nat.le_of_ble_eq_true rfl) ?_
  refine pw_aload_n 0 rfl dX7_moveNearer_0 rfl ?_
  refine pw_gV 8 8 b rfl dX7_moveNearer_1 cOk7 (by assumption) (by decide) kw_565 (by decide) hch ?_
  refine pw_callV (d' := d - 1) (As := []) (ci := 0) dX7_moveNearer_4 ok_X0_number kw_646 rfl rfl (Of.o (by assumption)) (by omega) rfl (Nat.le_of_ble_eq_true rfl) (h_number (d - 1) (by omega) n ok mem hN b hC A c v hI hS hV hv) (Nat.le_refl _) (Or.inl rfl) (fun r ok1 mem1 hq => ?_)
  obtain ⟨rfl, rfl, rfl⟩ := hq
  have hnr := numV_ran hOk.1.2.2 hv 16 (by omega)
  have hpw := hOk.2.2
  have hx := hSI.2.2.1 (numV A c v 16) (by omega) (by omega)
  refine pw_istore_n 1 rfl dX7_moveNearer_7 (by decide) ?_
  refine pw_aload_n 0 rfl dX7_moveNearer_8 rfl ?_
  refine pw_iload_n 1 rfl dX7_moveNearer_9 rfl ?_
  refine pw_callV (d' := d - 1) (As := [_]) (ci := 7) dX7_moveNearer_10 ok_X7_orderOf kw_951 rfl rfl (Of.o (by assumption)) (by omega) rfl (Nat.le_of_ble_eq_true rfl) (y_orderOf (d - 1) (by omega) n ok mem hU (numV A c v 16) (by omega)) (Nat.le_refl _) (Or.inl rfl) (fun r ok1 mem1 hq => ?_)
  obtain ⟨rfl, rfl, rfl⟩ := hq
  have e9 : (if 0 ≤ (numV A c v 16) ∧ (numV A c v 16) < 1024 then mem 128 (numV A c v 16) else -1) = (if S 109 (numV A c v 16) = -1 then -1 else S 110 (numV A c v 16)) := by rw [if_pos (by omega), hSR.2.2.2 (numV A c v 16) (by omega) (by omega)]
  rw [e9]
  refine pw_istore_n 2 rfl dX7_moveNearer_13 (by decide) ?_
  refine pw_iload_n 2 rfl dX7_moveNearer_14 rfl ?_
  refine pw_iconst dX7_moveNearer_15 ?_
  refine pw_icmp_eq 28 (by decide) dX7_moveNearer_16 (by have := hSI.1; split <;> omega) (by omega) (fun c16 => ?_) (fun c16 => ?_)
  · skip
    have hz : S 109 (numV A c v 16) = -1 := by
      by_cases q : S 109 (numV A c v 16) = -1
      · exact q
      · rw [if_neg q] at c16; omega
    refine pw_iconst dX7_moveNearer_28 ?_
    refine pw_iret dX7_moveNearer_29 rfl rfl ?_
    refine ⟨congrArg (fun z => some (vi z)) ?_, rfl, fun _ _ _ => rfl, hV⟩
    rw [if_pos (Or.inl hz)]
  · skip
    have hz : S 109 (numV A c v 16) ≠ -1 := fun q => by rw [if_pos q] at c16; exact c16 rfl
    have e8 : (if S 109 (numV A c v 16) = -1 then -1 else S 110 (numV A c v 16)) = S 110 (numV A c v 16) := if_neg hz
    rw [e8]
    have ho : 0 ≤ (S 110 (numV A c v 16)) ∧ (S 110 (numV A c v 16)) < S 88 34 ∧ S 108 (S 110 (numV A c v 16)) = (numV A c v 16) := by rcases hx with z | z; exact absurd z hz; exact z
    have hq1 := hSI.1
    refine pw_aload_n 0 rfl dX7_moveNearer_19 rfl ?_
    refine pw_gR 5 129 dX7_moveNearer_20 cOk7 (by assumption) (by decide) kw_561 (by decide) rfl ?_
    refine pw_iload_n 2 rfl dX7_moveNearer_23 rfl ?_
    refine pw_iaload dX7_moveNearer_24 (by assumption) (by omega) (by omega) (fun r24 => ?_)
    refine pw_if_gt 30 (by decide) dX7_moveNearer_25 (by omega) (fun c25 => ?_) (fun c25 => ?_)
    · skip
      have hsp := hSp.1 (S 110 (numV A c v 16)) ho.1 ho.2.1
      refine pw_iconst dX7_moveNearer_30 ?_
      refine pw_istore_n 3 rfl dX7_moveNearer_31 (by decide) ?_
      have lp32 : ∀ (kz : Nat) (j : Nat) (m1 : pM), 38 - (j : Int) < (kz : Int) → (j ≤ 38) → (fj S (mem 129) (S 110 (numV A c v 16)) 38 0 = fj S (mem 129) (S 110 (numV A c v 16)) (38 - j) j) → (Fr2 b mem m1) → (CV A c m1 b v) → PW mi_X7_moveNearer d n n (fun r ok' mem' => r = some (vi (if S 109 (numV A c v 16) = -1 ∨ mem 129 (S 110 (numV A c v 16)) < 1 then -1 else fj S (mem 129) (S 110 (numV A c v 16)) 38 0)) ∧ ok = ok' ∧ Fr2 b mem mem' ∧ CV A c mem' b v) 32 [(0, vr 123), (1, vi (numV A c v 16)), (2, vi (S 110 (numV A c v 16))), (3, vi (j : Int))] [] n ok m1 := by
        intro kz
        induction kz with
        | zero =>
          intro j m1 hk hj hG hF1 hV1
          exact absurd hk (by omega)
        | succ kz ih =>
          intro j m1 hk hj hG hF1 hV1
          have g1 : ∀ a, a ≠ b + 4 → a ≠ b + 7 → m1 a = mem a := hF1
          have hS1 : CS A c m1 b := hS.m (fun a _ _ h4 h7 => g1 a h4 h7)
          refine pw_iload_n 3 rfl dX7_moveNearer_32 rfl ?_
          refine pw_bipush dX7_moveNearer_33 (by decide) ?_
          refine pw_icmp_ge 85 (by decide) dX7_moveNearer_35 (by omega) (by omega) (fun c35 => ?_) (fun c35 => ?_)
          · skip
            have ej : 38 - j = 0 := by omega
            refine pw_iconst dX7_moveNearer_85 ?_
            refine pw_iret dX7_moveNearer_86 rfl rfl ?_
            refine ⟨congrArg (fun z => some (vi z)) ?_, rfl, hF1, hV1⟩
            rw [if_neg (by omega), hG, ej]; rfl
          · skip
            have eG : 38 - j = (37 - j) + 1 := by omega
            have hld := hGI.2 (S 110 (numV A c v 16)) ho.1 (by omega) (j : Int) (by omega) (by omega)
            rw [ho.2.2] at hld
            refine pw_aload_n 0 rfl dX7_moveNearer_38 rfl ?_
            refine pw_aload_n 0 rfl dX7_moveNearer_39 rfl ?_
            refine pw_gV 8 8 b rfl dX7_moveNearer_40 cOk7 (by assumption) (by decide) kw_565 (by decide) (by rw [g1 _ (by omega) (by omega)]; exact hch) ?_
            refine pw_iload_n 3 rfl dX7_moveNearer_43 rfl ?_
            refine pw_iload_n 1 rfl dX7_moveNearer_44 rfl ?_
            refine pw_callV (d' := d - 1) (As := [_, _]) (ci := 0) dX7_moveNearer_45 ok_X0_numberBehind kw_695 rfl rfl (Of.o (by assumption)) (by omega) rfl (Nat.le_of_ble_eq_true rfl) (h_numberBehind (d - 1) (by omega) n ok m1 hN b hC A c v hI hS1 hV1 hv (j : Int) (by omega) (by rw [g1 2 (by omega) (by omega)]; omega)) (Nat.le_refl _) (Or.inl rfl) (fun r9 ok1 m2 hq => ?_)
            obtain ⟨rfl, rfl, hF2x, hV2⟩ := hq
            have hF2 : Fr2 b mem m2 := fun a h4 h7 => by rw [hF2x a h4 h7]; exact g1 a h4 h7
            have g2 : ∀ a, a ≠ b + 4 → a ≠ b + 7 → m2 a = mem a := hF2
            have hUr := mvN_ran hOk.1 (numV A c v 16) (mv := (j : Int)) (by omega)
            refine pw_callV (d' := d - 1) (As := [_]) (ci := 7) dX7_moveNearer_48 ok_X7_orderOf kw_951 rfl rfl (Of.o (by assumption)) (by omega) rfl (Nat.le_of_ble_eq_true rfl) (y_orderOf (d - 1) (by omega) n ok m2 hU _ (by omega)) (Nat.le_refl _) (Or.inl rfl) (fun r ok1 mem1 hq => ?_)
            obtain ⟨rfl, rfl, rfl⟩ := hq
            have hbh : (if 0 ≤ mvN A c (numV A c v 16) (j : Int) ∧ mvN A c (numV A c v 16) (j : Int) < 1024 then m2 128 (mvN A c (numV A c v 16) (j : Int)) else -1) = (S 114 (38 * (S 110 (numV A c v 16)) + (j : Int))) := by
              rcases hld with z | z
              · rw [if_neg (by omega), z.2]
              · have z1 := z.1
                rw [if_pos (by omega), g2 _ (by omega) (by omega), hSR.2.2.2 _ (by omega) (by omega), if_neg z.2.1, z.2.2]
            rw [hbh]
            have hlr := hSI.2.2.2.2 (38 * (S 110 (numV A c v 16)) + (j : Int)) (by omega) (by omega)
            refine pw_istore dX7_moveNearer_51 (by decide) ?_
            refine pw_iload dX7_moveNearer_53 rfl ?_
            refine pw_iconst dX7_moveNearer_55 ?_
            refine pw_icmp_eq 79 (by decide) dX7_moveNearer_56 (by omega) (by omega) (fun c56 => ?_) (fun c56 => ?_)
            · skip
              have hnz : (S 114 (38 * (S 110 (numV A c v 16)) + (j : Int))) = -1 := c56
              refine pw_iinc dX7_moveNearer_79 rfl (by decide) ?_
              refine pw_goto 32 (by decide) dX7_moveNearer_82 ?_
              exact pw_locs _ rfl (ih (j + 1) m2 (by omega) (by omega) (by rw [hG, eG, fj_s, if_neg (fun y => y.1 hnz), show 38 - (j + 1) = 37 - j by omega]; rfl) hF2 hV2)
            · skip
              refine pw_aload_n 0 rfl dX7_moveNearer_59 rfl ?_
              refine pw_gR 5 129 dX7_moveNearer_60 cOk7 (by assumption) (by decide) kw_561 (by decide) rfl ?_
              refine pw_iload dX7_moveNearer_63 rfl ?_
              refine pw_iaload dX7_moveNearer_65 (by assumption) (by omega) (by omega) (fun r65 => ?_)
              try simp (disch := omega) only [wr_s, wr_a, wr_k] at r65 ⊢
              rw [g2 _ (by omega) (by omega)] at r65 ⊢
              refine pw_aload_n 0 rfl dX7_moveNearer_66 rfl ?_
              refine pw_gR 5 129 dX7_moveNearer_67 cOk7 (by assumption) (by decide) kw_561 (by decide) rfl ?_
              refine pw_iload_n 2 rfl dX7_moveNearer_70 rfl ?_
              refine pw_iaload dX7_moveNearer_71 (by assumption) (by omega) (by omega) (fun r71 => ?_)
              try simp (disch := omega) only [wr_s, wr_a, wr_k] at r71 ⊢
              rw [g2 _ (by omega) (by omega)] at r71 ⊢
              refine pw_iconst dX7_moveNearer_72 ?_
              refine pw_isub dX7_moveNearer_73 ?_
              refine pw_icmp_ne 79 (by decide) dX7_moveNearer_74 (by omega) (by omega) (fun c74 => ?_) (fun c74 => ?_)
              · skip
                refine pw_iinc dX7_moveNearer_79 rfl (by decide) ?_
                refine pw_goto 32 (by decide) dX7_moveNearer_82 ?_
                exact pw_locs _ rfl (ih (j + 1) m2 (by omega) (by omega) (by rw [hG, eG, fj_s, if_neg (fun y => c74 y.2), show 38 - (j + 1) = 37 - j by omega]; rfl) hF2 hV2)
              · skip
                refine pw_iload_n 3 rfl dX7_moveNearer_77 rfl ?_
                refine pw_iret dX7_moveNearer_78 rfl rfl ?_
                refine ⟨congrArg (fun z => some (vi z)) ?_, rfl, hF2, hV2⟩
                rw [if_neg (by omega), hG, eG, fj_s, if_pos ⟨c56, by omega⟩]
      exact pw_locs _ rfl (lp32 39 0 mem (by omega) (by omega) rfl (fun _ _ _ => rfl) hV)
    · skip
      refine pw_iconst dX7_moveNearer_28 ?_
      refine pw_iret dX7_moveNearer_29 rfl rfl ?_
      refine ⟨congrArg (fun z => some (vi z)) ?_, rfl, fun _ _ _ => rfl, hV⟩
      rw [if_pos (Or.inr (by omega))]
