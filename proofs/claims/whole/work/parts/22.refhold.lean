/-! ===== holding, failing, open ===== -/
def sSame (m m1 : pM) : Prop := ∀ a, 89 ≤ a → a ≤ 98 → a ≠ 92 → m1 a = m a
theorem nSame.s {m m1 : pM} (h : nSame m m1) : sSame m m1 := fun a h1 h2 h3 => h.1 a (by omega) (by omega)
def pOkv (m : pM) (c : Int) (v : Int → Int) : Prop := ∀ s : Int, 0 ≤ s → s ≤ 15 → aKind m c s ≠ -1 → 0 ≤ v s ∧ v s < aSpan m c s
def sOk (m : pM) (c : Int) : Prop := (0 ≤ aNc m c ∧ aNc m c ≤ 40) ∧ (∀ k : Int, 0 ≤ k → k < aNc m c → (-1 ≤ aSeat m c k ∧ aSeat m c k ≤ 15) ∧ (0 ≤ aLook m c k ∧ aLook m c k ≤ 15) ∧ (-1 ≤ aMany m c k ∧ aMany m c k ≤ 6)) ∧ pOk m c
theorem sSame.row {m m1 : pM} (h : sSame m m1) : m1 89 = m 89 := h 89 (by omega) (by omega) (by omega)
theorem sSame.kind {m m1 : pM} (h : sSame m m1) : m1 90 = m 90 := h 90 (by omega) (by omega) (by omega)
theorem sSame.span {m m1 : pM} (h : sSame m m1) : m1 91 = m 91 := h 91 (by omega) (by omega) (by omega)
theorem sSame.side {m m1 : pM} (h : sSame m m1) : m1 93 = m 93 := h 93 (by omega) (by omega) (by omega)
theorem sSame.nc {m m1 : pM} (h : sSame m m1) : m1 94 = m 94 := h 94 (by omega) (by omega) (by omega)
theorem sSame.seat {m m1 : pM} (h : sSame m m1) : m1 95 = m 95 := h 95 (by omega) (by omega) (by omega)
theorem sSame.look {m m1 : pM} (h : sSame m m1) : m1 96 = m 96 := h 96 (by omega) (by omega) (by omega)
theorem sSame.many {m m1 : pM} (h : sSame m m1) : m1 97 = m 97 := h 97 (by omega) (by omega) (by omega)
theorem sSame.tru {m m1 : pM} (h : sSame m m1) : m1 98 = m 98 := h 98 (by omega) (by omega) (by omega)
theorem aComes_s {m m1 : pM} (h : sSame m m1) (c s : Int) : aComes m1 c s = aComes m c s := by unfold aComes aRow aKind; rw [h.row, h.kind]
theorem hTel_s {m m1 : pM} (h : sSame m m1) (c : Int) (v : Int → Int) (k : Int) : hTel m1 c v k = hTel m c v k := by unfold hTel aKind aSpan aLook; rw [h.kind, h.span, h.look]
theorem hMet_s {m m1 : pM} (h : sSame m m1) (c : Int) (v : Int → Int) (k : Int) : hMet m1 c v k = hMet m c v k := by unfold hMet aKind aMany aLook; rw [h.kind, h.look, h.many, aComes_s h, hTel_s h]
theorem hIs_s {m m1 : pM} (h : sSame m m1) (c : Int) (v : Int → Int) (k : Int) : hIs m1 c v k = hIs m c v k := by unfold hIs aTru; rw [h.tru, hMet_s h, hTel_s h]
theorem hEv_s {m m1 : pM} (h : sSame m m1) (c k : Int) : hEv m1 c k = hEv m c k := by unfold hEv aKind aLook; rw [h.kind, h.look, aComes_s h]
theorem sOk_s {m m1 : pM} (h : sSame m m1) {c : Int} (hs : sOk m c) : sOk m1 c := by unfold sOk pOk aNc aSeat aLook aMany aKind aSpan at *; rw [h.nc, h.seat, h.look, h.many, h.kind, h.span]; exact hs
theorem pOkv_s {m m1 : pM} (h : sSame m m1) {c : Int} {v : Int → Int} (hs : pOkv m c v) : pOkv m1 c v := by unfold pOkv aKind aSpan at *; rw [h.kind, h.span]; exact hs
theorem aComes_ran (m : pM) (c s : Int) : 0 ≤ aComes m c s ∧ aComes m c s ≤ 2 := by unfold aComes; (repeat' split) <;> omega
theorem aComes_kind {m : pM} {c s : Int} (h : aComes m c s = 0) : aKind m c s ≠ -1 := by unfold aComes at h; intro e; rw [e] at h; revert h; (repeat' split) <;> omega
theorem tel_ran {k p t : Int} (hp : 1 ≤ p ∧ p ≤ 6) (ht : 0 ≤ t ∧ t < p) : 0 ≤ tel k p t ∧ tel k p t ≤ 5 := by
  unfold tel
  split
  · have := Int.emod_nonneg (t + 1) (show p ≠ 0 by omega)
    have := Int.emod_lt_of_pos (t + 1) (show 0 < p by omega)
    omega
  · (repeat' split) <;> omega
theorem hMet_ran (m : pM) (c : Int) (v : Int → Int) (k : Int) : 0 ≤ hMet m c v k ∧ hMet m c v k ≤ 3 := by
  have := aComes_ran m c (aLook m c k)
  unfold hMet; (repeat' split) <;> omega
theorem rWr_met (m : pM) (z : Int) (l : List Int) : rWr (wr m 88 23 z) l = wr (rWr m l) 88 23 z := by rw [← rEv_W, rEv_met, rEv_W]
theorem tW_len (k : Int) : (tW k).length ≤ 2 := by unfold tW; (repeat' split) <;> decide
theorem hEv_len (m : pM) (c k : Int) : (hEv m c k).length ≤ 2 := by
  unfold hEv; (repeat' split)
  · decide
  · decide
  · exact tW_len _
set_option maxHeartbeats 4000000 in
set_option maxRecDepth 100000 in
theorem r_holding (d : Nat) (hd : 2 ≤ d) (n : Nat) (ok : pO) (mem : pM) (hU : RefUp n ok) (c k : Int) (hc : 0 ≤ c ∧ c ≤ 2) (hk : 0 ≤ k ∧ k < 40) (hlk : 0 ≤ aLook mem c k ∧ aLook mem c k ≤ 15) (hmn : -1 ≤ aMany mem c k ∧ aMany mem c k ≤ 6) (hp : pOk mem c) (hv : pOkv mem c (aAt mem c)) (ht : 0 ≤ mem 88 19 ∧ mem 88 19 ≤ 1000000000) : PM mi_X10_holding d [vr 88, vi c, vi k] n ok mem n (fun r ok' mem' => r = some (vi (hIs mem c (aAt mem c) k)) ∧ ok = ok' ∧ wr (rWr mem (hEv mem c k)) 88 23 (hMet mem c (aAt mem c) k) = mem') := by
  obtain ⟨hO, ⟨a89, a90, a91, a92, a93, a94, a95, a96, a97, a98⟩, ⟨a99, a100, a101, a102, a103, a104, a105, a106, a107⟩, ⟨a108, a109, a110, a111, a112, a113, a114, a115, a116, a117, a118, a119⟩, a120, a121, a122⟩ := id hU
  have hlk : 0 ≤ mem 96 (40 * c + k) ∧ mem 96 (40 * c + k) ≤ 15 := hlk
  have hmn : -1 ≤ mem 97 (40 * c + k) ∧ mem 97 (40 * c + k) ≤ 6 := hmn
  refine PM.of (by decide) (by decide) (Nat.le_refl _) (Nat.le_of_ble_eq_true rfl) ?_
  refine pw_bipush dX10_holding_0 (by decide) ?_
  refine pw_iload_n 1 rfl dX10_holding_2 rfl ?_
  refine pw_imul dX10_holding_3 ?_
  refine pw_iload_n 2 rfl dX10_holding_4 rfl ?_
  refine pw_iadd dX10_holding_5 ?_
  refine pw_istore_n 3 rfl dX10_holding_6 (by decide) ?_
  refine pw_bipush dX10_holding_7 (by decide) ?_
  refine pw_iload_n 1 rfl dX10_holding_9 rfl ?_
  refine pw_imul dX10_holding_10 ?_
  refine pw_aload_n 0 rfl dX10_holding_11 rfl ?_
  refine pw_gR 11 96 dX10_holding_12 cOk10 (by assumption) (by decide) kw_1076 (by decide) rfl ?_
  refine pw_iload_n 3 rfl dX10_holding_15 rfl ?_
  refine pw_iaload dX10_holding_16 (by assumption) (by omega) (by omega) (fun r16 => ?_)
  refine pw_iadd dX10_holding_17 ?_
  refine pw_istore dX10_holding_18 (by decide) ?_
  refine pw_aload_n 0 rfl dX10_holding_20 rfl ?_
  refine pw_aload_n 0 rfl dX10_holding_21 rfl ?_
  refine pw_iload_n 1 rfl dX10_holding_22 rfl ?_
  refine pw_aload_n 0 rfl dX10_holding_23 rfl ?_
  refine pw_gR 11 96 dX10_holding_24 cOk10 (by assumption) (by decide) kw_1076 (by decide) rfl ?_
  refine pw_iload_n 3 rfl dX10_holding_27 rfl ?_
  refine pw_iaload dX10_holding_28 (by assumption) (by omega) (by omega) (fun r28 => ?_)
  refine pw_callV (d' := d - 1) (As := [_, _]) (ci := 10) dX10_holding_29 ok_X10_comes kw_1295 rfl rfl (Of.o (by assumption)) (by omega) rfl (Nat.le_of_ble_eq_true rfl) (r_comes (d - 1) (by omega) n ok mem hU c (mem 96 (40 * c + k)) hc hlk) (Nat.le_refl _) (Or.inl rfl) (fun r ok1 mem1 hq => ?_)
  obtain ⟨rfl, rfl, rfl⟩ := hq
  have hcr := aComes_ran mem c (mem 96 (40 * c + k))
  refine pw_pI 23 23 rfl dX10_holding_32 cOk10 (by assumption) (by decide) kw_1088 rfl rfl (by decide) (by omega) ?_
  refine pw_aload_n 0 rfl dX10_holding_35 rfl ?_
  refine pw_gI 23 23 rfl dX10_holding_36 cOk10 (by assumption) (by decide) kw_1088 (by decide) (fun r36 => ?_)
  try simp (disch := omega) only [wr_s, wr_a, wr_k] at r36 ⊢
  refine pw_if_eq 44 (by decide) dX10_holding_39 (by omega) (fun c39 => ?_) (fun c39 => ?_)
  · skip
    refine pw_aload_n 0 rfl dX10_holding_44 rfl ?_
    refine pw_gR 5 90 dX10_holding_45 cOk10 (by assumption) (by decide) kw_1070 (by decide) rfl ?_
    refine pw_iload dX10_holding_48 rfl ?_
    refine pw_iaload dX10_holding_50 (by assumption) (by omega) (by omega) (fun r50 => ?_)
    try simp (disch := omega) only [wr_s, wr_a, wr_k] at r50 ⊢
    refine pw_iconst dX10_holding_51 ?_
    refine pw_icmp_ne 62 (by decide) dX10_holding_52 (by omega) (by omega) (fun c52 => ?_) (fun c52 => ?_)
    · skip
      obtain ⟨m1, e1⟩ : ∃ m1, m1 = wr mem 88 23 (aComes mem c (mem 96 (40 * c + k))) := ⟨_, rfl⟩
      rw [← e1]
      have hs1 : nSame mem m1 := by rw [e1]; exact nSame.m _ _
      have q90 := hs1.s.kind
      have q91 := hs1.s.span
      have q92 : m1 92 = mem 92 := hs1.1 92 (by omega) (by omega)
      have q19 : m1 88 19 = mem 88 19 := by rw [e1]; exact wr_k _ _ _ _ (by omega)
      have hkn := aComes_kind c39
      have hpp : 1 ≤ mem 91 (16 * c + mem 96 (40 * c + k)) ∧ mem 91 (16 * c + mem 96 (40 * c + k)) ≤ 6 := hp _ hlk.1 hlk.2 hkn
      have hvv : 0 ≤ mem 92 (16 * c + mem 96 (40 * c + k)) ∧ mem 92 (16 * c + mem 96 (40 * c + k)) < mem 91 (16 * c + mem 96 (40 * c + k)) := hv _ hlk.1 hlk.2 hkn
      have htr := tel_ran (k := mem 90 (16 * c + mem 96 (40 * c + k))) hpp hvv
      refine pw_aload_n 0 rfl dX10_holding_62 rfl ?_
      refine pw_iload dX10_holding_63 rfl ?_
      refine pw_callV (d' := d - 1) (As := [_]) (ci := 10) dX10_holding_65 ok_X10_tells kw_1382 rfl rfl (Of.o (by assumption)) (by omega) rfl (Nat.le_of_ble_eq_true rfl) (r_tells (d - 1) (by omega) n ok m1 hU (16 * c + mem 96 (40 * c + k)) (by omega) (by rw [q91]; exact hpp) (by rw [q92]; omega) (by rw [q19]; exact ht)) (Nat.le_refl _) (Or.inl rfl) (fun r ok1 m2 hq => ?_)
      obtain ⟨rfl, rfl, em⟩ := hq
      rw [q90, q91, q92]
      rw [q90] at em
      have e3 : hEv mem c k = tW (mem 90 (16 * c + mem 96 (40 * c + k))) := by unfold hEv; rw [if_neg (fun z => z c39), if_neg c52]
      have em2 : m2 = wr (rWr mem (hEv mem c k)) 88 23 (aComes mem c (mem 96 (40 * c + k))) := by rw [← em, e1, rWr_met, e3]
      have hs2 : nSame mem m2 := by rw [em2, ← rEv_W]; exact (nSame.e _ _).tr (nSame.m _ _)
      have q97 := hs2.s.many
      have q98 := hs2.s.tru
      obtain ⟨t, et⟩ : ∃ t, t = tel (mem 90 (16 * c + mem 96 (40 * c + k))) (mem 91 (16 * c + mem 96 (40 * c + k))) (mem 92 (16 * c + mem 96 (40 * c + k))) := ⟨_, rfl⟩
      have eT : hTel mem c (aAt mem c) k = t := by rw [et]; rfl
      rw [← et] at htr ⊢
      refine pw_istore dX10_holding_68 (by decide) ?_
      refine pw_aload_n 0 rfl dX10_holding_70 rfl ?_
      refine pw_aload_n 0 rfl dX10_holding_71 rfl ?_
      refine pw_gR 12 97 dX10_holding_72 cOk10 (by assumption) (by decide) kw_1077 (by decide) rfl ?_
      refine pw_iload_n 3 rfl dX10_holding_75 rfl ?_
      refine pw_iaload dX10_holding_76 (by assumption) (by omega) (by omega) (fun r76 => ?_)
      try simp (disch := omega) only [wr_s, wr_a, wr_k] at r76 ⊢
      rw [q97] at r76 ⊢
      refine pw_iconst dX10_holding_77 ?_
      refine pw_icmp_ne 85 (by decide) dX10_holding_78 (by omega) (by omega) (fun c78 => ?_) (fun c78 => ?_)
      · skip
        refine pw_iload dX10_holding_85 rfl ?_
        refine pw_aload_n 0 rfl dX10_holding_87 rfl ?_
        refine pw_gR 12 97 dX10_holding_88 cOk10 (by assumption) (by decide) kw_1077 (by decide) rfl ?_
        refine pw_iload_n 3 rfl dX10_holding_91 rfl ?_
        refine pw_iaload dX10_holding_92 (by assumption) (by omega) (by omega) (fun r92 => ?_)
        try simp (disch := omega) only [wr_s, wr_a, wr_k] at r92 ⊢
        rw [q97] at r92 ⊢
        refine pw_icmp_lt 100 (by decide) dX10_holding_93 (by omega) (by omega) (fun c93 => ?_) (fun c93 => ?_)
        · skip
          refine pw_iconst dX10_holding_100 ?_
          refine pw_pI 23 23 rfl dX10_holding_101 cOk10 (by assumption) (by decide) kw_1088 rfl rfl (by decide) (by omega) ?_
          refine pw_aload_n 0 rfl dX10_holding_104 rfl ?_
          refine pw_gI 23 23 rfl dX10_holding_105 cOk10 (by assumption) (by decide) kw_1088 (by decide) (fun r105 => ?_)
          try simp (disch := omega) only [wr_s, wr_a, wr_k] at r105 ⊢
          refine pw_if_ne 131 (by decide) dX10_holding_108 (by omega) (fun c108 => ?_) (fun c108 => ?_)
          · skip
            exfalso; omega
          · skip
            refine pw_aload_n 0 rfl dX10_holding_111 rfl ?_
            refine pw_gR 13 98 dX10_holding_112 cOk10 (by assumption) (by decide) kw_1078 (by decide) rfl ?_
            refine pw_bipush dX10_holding_115 (by decide) ?_
            refine pw_iload_n 3 rfl dX10_holding_117 rfl ?_
            refine pw_imul dX10_holding_118 ?_
            refine pw_iload dX10_holding_119 rfl ?_
            refine pw_iadd dX10_holding_121 ?_
            refine pw_iaload dX10_holding_122 (by assumption) (by omega) (by omega) (fun r122 => ?_)
            try simp (disch := omega) only [wr_s, wr_a, wr_k] at r122 ⊢
            rw [q98] at r122 ⊢
            refine pw_iconst dX10_holding_123 ?_
            refine pw_icmp_ne 131 (by decide) dX10_holding_124 (by omega) (by omega) (fun c124 => ?_) (fun c124 => ?_)
            · skip
              refine pw_iconst dX10_holding_131 ?_
              refine pw_zret dX10_holding_132 rfl (by omega) rfl ?_
              rw [em2, wr_wr]
              have e2 : hMet mem c (aAt mem c) k = 0 := by unfold hMet; rw [if_neg (fun z => z c39), if_neg c52, eT]; simp only [aMany]; (repeat' split) <;> omega
              refine ⟨congrArg (fun z => some (vi z)) ?_, rfl, ?_⟩
              · unfold hIs; rw [e2, eT]; simp only [aTru, true_and]; (repeat' split) <;> omega
              · rw [e2]
            · skip
              refine pw_iconst dX10_holding_127 ?_
              refine pw_goto 132 (by decide) dX10_holding_128 ?_
              refine pw_zret dX10_holding_132 rfl (by omega) rfl ?_
              rw [em2, wr_wr]
              have e2 : hMet mem c (aAt mem c) k = 0 := by unfold hMet; rw [if_neg (fun z => z c39), if_neg c52, eT]; simp only [aMany]; (repeat' split) <;> omega
              refine ⟨congrArg (fun z => some (vi z)) ?_, rfl, ?_⟩
              · unfold hIs; rw [e2, eT]; simp only [aTru, true_and]; (repeat' split) <;> omega
              · rw [e2]
        · skip
          refine pw_iconst dX10_holding_96 ?_
          refine pw_goto 101 (by decide) dX10_holding_97 ?_
          refine pw_pI 23 23 rfl dX10_holding_101 cOk10 (by assumption) (by decide) kw_1088 rfl rfl (by decide) (by omega) ?_
          refine pw_aload_n 0 rfl dX10_holding_104 rfl ?_
          refine pw_gI 23 23 rfl dX10_holding_105 cOk10 (by assumption) (by decide) kw_1088 (by decide) (fun r105 => ?_)
          try simp (disch := omega) only [wr_s, wr_a, wr_k] at r105 ⊢
          refine pw_if_ne 131 (by decide) dX10_holding_108 (by omega) (fun c108 => ?_) (fun c108 => ?_)
          · skip
            refine pw_iconst dX10_holding_131 ?_
            refine pw_zret dX10_holding_132 rfl (by omega) rfl ?_
            rw [em2, wr_wr]
            have e2 : hMet mem c (aAt mem c) k = 2 := by unfold hMet; rw [if_neg (fun z => z c39), if_neg c52, eT]; simp only [aMany]; (repeat' split) <;> omega
            refine ⟨congrArg (fun z => some (vi z)) ?_, rfl, ?_⟩
            · unfold hIs; rw [e2, eT]; simp only [aTru, true_and]; (repeat' split) <;> omega
            · rw [e2]
          · skip
            exfalso; omega
      · skip
        refine pw_iconst dX10_holding_81 ?_
        refine pw_goto 101 (by decide) dX10_holding_82 ?_
        refine pw_pI 23 23 rfl dX10_holding_101 cOk10 (by assumption) (by decide) kw_1088 rfl rfl (by decide) (by omega) ?_
        refine pw_aload_n 0 rfl dX10_holding_104 rfl ?_
        refine pw_gI 23 23 rfl dX10_holding_105 cOk10 (by assumption) (by decide) kw_1088 (by decide) (fun r105 => ?_)
        try simp (disch := omega) only [wr_s, wr_a, wr_k] at r105 ⊢
        refine pw_if_ne 131 (by decide) dX10_holding_108 (by omega) (fun c108 => ?_) (fun c108 => ?_)
        · skip
          refine pw_iconst dX10_holding_131 ?_
          refine pw_zret dX10_holding_132 rfl (by omega) rfl ?_
          rw [em2, wr_wr]
          have e2 : hMet mem c (aAt mem c) k = 1 := by unfold hMet; rw [if_neg (fun z => z c39), if_neg c52, eT]; simp only [aMany]; (repeat' split) <;> omega
          refine ⟨congrArg (fun z => some (vi z)) ?_, rfl, ?_⟩
          · unfold hIs; rw [e2, eT]; simp only [aTru, true_and]; (repeat' split) <;> omega
          · rw [e2]
        · skip
          exfalso; omega
    · skip
      refine pw_aload_n 0 rfl dX10_holding_55 rfl ?_
      refine pw_iconst dX10_holding_56 ?_
      refine pw_pI 23 23 rfl dX10_holding_57 cOk10 (by assumption) (by decide) kw_1088 rfl rfl (by decide) (by omega) ?_
      refine pw_iconst dX10_holding_60 ?_
      refine pw_zret dX10_holding_61 rfl (by omega) rfl ?_
      have e2 : hMet mem c (aAt mem c) k = 3 := by unfold hMet; rw [if_neg (fun z => z c39), if_pos c52]
      have e1 : hIs mem c (aAt mem c) k = 0 := by unfold hIs; rw [e2]; rfl
      have e3 : hEv mem c k = [] := by unfold hEv; rw [if_neg (fun z => z c39), if_pos c52]
      rw [e1, e2, e3]; exact ⟨rfl, rfl, (wr_wr _ _ _ _ _).symm⟩
  · skip
    refine pw_iconst dX10_holding_42 ?_
    refine pw_zret dX10_holding_43 rfl (by omega) rfl ?_
    have e1 : hIs mem c (aAt mem c) k = 0 := by unfold hIs hMet; rw [if_pos c39, if_neg (fun z => c39 z.1)]
    have e2 : hMet mem c (aAt mem c) k = aComes mem c (mem 96 (40 * c + k)) := by unfold hMet; rw [if_pos c39]
    have e3 : hEv mem c k = [] := by unfold hEv; rw [if_pos c39]
    rw [e1, e2, e3]; exact ⟨rfl, rfl, rfl⟩
