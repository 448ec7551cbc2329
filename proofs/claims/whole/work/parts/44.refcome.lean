/-! ===== coming to a state ===== -/
theorem pige (k : Nat) : ∀ (n : Nat) (f : Nat → Nat), (∀ i, i < n → f i < k) → (∀ i j, i < n → j < n → f i = f j → i = j) → n ≤ k := by
  induction k with
  | zero =>
    intro n f h1 h2
    rcases Nat.eq_zero_or_pos n with e | e
    · omega
    · exact absurd (h1 0 e) (by omega)
  | succ k ih =>
    intro n f h1 h2
    rcases Nat.eq_zero_or_pos n with e | e
    · omega
    · obtain ⟨p, rfl⟩ : ∃ p, n = p + 1 := ⟨n - 1, by omega⟩
      have := ih p (fun i => if f p < f i then f i - 1 else f i) (fun i hi => by
        have a := h1 i (by omega)
        have b := h1 p (by omega)
        have c : f i ≠ f p := fun z => by have := h2 i p (by omega) (by omega) z; omega
        show (if f p < f i then f i - 1 else f i) < k
        split <;> omega) (fun i j hi hj q => by
        have c : f i ≠ f p := fun z => by have := h2 i p (by omega) (by omega) z; omega
        have c2 : f j ≠ f p := fun z => by have := h2 j p (by omega) (by omega) z; omega
        have q2 : (if f p < f i then f i - 1 else f i) = (if f p < f j then f j - 1 else f j) := q
        refine h2 i j (by omega) (by omega) ?_
        split at q2 <;> split at q2 <;> omega)
      omega
def SIr (m : pM) : Prop :=
  (∀ o, 0 ≤ o → o < m 88 34 → 0 ≤ m 108 o ∧ m 108 o < 1024 ∧ m 110 (m 108 o) = o ∧ 0 ≤ m 109 (m 108 o) ∧ m 109 (m 108 o) ≤ o) ∧
  (∀ x, 0 ≤ x → x < 1024 → m 109 x = -1 ∨ (0 ≤ m 110 x ∧ m 110 x < m 88 34 ∧ m 108 (m 110 x) = x)) ∧
  (∀ o, 0 ≤ o → o < m 88 34 → 1 ≤ m 109 (m 108 o) → 0 ≤ m 112 o ∧ m 112 o < o ∧ m 109 (m 108 (m 112 o)) = m 109 (m 108 o) - 1) ∧
  (∀ e, 0 ≤ e → e < 38 * m 88 35 → m 114 e = -1 ∨ (0 ≤ m 114 e ∧ m 114 e < m 88 34))
def SIq (m : pM) : Prop := (0 ≤ m 88 34 ∧ m 88 34 ≤ 1024 ∧ 0 ≤ m 88 35 ∧ m 88 35 ≤ m 88 34 ∧ -1 ≤ m 88 36 ∧ m 88 36 < m 88 34) ∧ SIr m
theorem SIq.s {m : pM} (h : SIq m) (h1 : 1 ≤ m 88 34) : SIs m := ⟨⟨h1, h.1.2⟩, h.2⟩
theorem SIs.q {m : pM} (h : SIs m) : SIq m := ⟨⟨by have := h.1.1; omega, h.1.2⟩, h.2⟩
/-- there is room for a state that was not come to -/
theorem SIq.room {m : pM} (h : SIq m) {x : Int} (h1 : 0 ≤ x) (h2 : x < 1024) (hx : m 109 x = -1) : m 88 34 < 1024 := by
  have h0 := h.1
  have hp := pige 1024 ((m 88 34).toNat + 1) (fun i => if i < (m 88 34).toNat then (m 108 i).toNat else x.toNat) (fun i hi => by
    show (if i < (m 88 34).toNat then (m 108 i).toNat else x.toNat) < 1024
    split
    · have := h.2.1 i (by omega) (by omega); omega
    · omega) (fun i j hi hj q => by
    have q2 : (if i < (m 88 34).toNat then (m 108 i).toNat else x.toNat) = (if j < (m 88 34).toNat then (m 108 j).toNat else x.toNat) := q
    by_cases e1 : i < (m 88 34).toNat
    · have a := h.2.1 i (by omega) (by omega)
      rw [if_pos e1] at q2
      by_cases e2 : j < (m 88 34).toNat
      · have b := h.2.1 j (by omega) (by omega)
        rw [if_pos e2] at q2
        have e3 : m 108 i = m 108 j := by omega
        have e4 := a.2.2.1
        rw [e3, b.2.2.1] at e4
        omega
      · rw [if_neg e2] at q2
        have e3 : m 108 i = x := by omega
        have e4 := a.2.2.2.1
        rw [e3, hx] at e4
        omega
    · rw [if_neg e1] at q2
      by_cases e2 : j < (m 88 34).toNat
      · have b := h.2.1 j (by omega) (by omega)
        rw [if_pos e2] at q2
        have e3 : m 108 j = x := by omega
        have e4 := b.2.2.2.1
        rw [e3, hx] at e4
        omega
      · omega)
  omega
def cmN (b : pM) (u lay fr by' op : Int) : pM := wr (wr (wr (wr (wr (wr (wr (wr b 109 u lay) 110 u (b 88 34)) 108 (b 88 34) u) 112 (b 88 34) fr) 113 (b 88 34) by') 111 (b 88 34) op) 88 36 (if op ≠ 0 ∧ b 88 36 = -1 then b 88 34 else b 88 36)) 88 34 (b 88 34 + 1)
def cmB (b : pM) (u lay fr by' op : Int) : pM := if b 109 u ≠ -1 then b else cmN b u lay fr by' op
set_option maxHeartbeats 4000000 in
set_option maxRecDepth 100000 in
theorem r_come (d : Nat) (hd : 5 ≤ d) (n : Nat) (ok : pO) (mem : pM) (hU : RefUp n ok) (u lay fr by9 : Int) (hu : 0 ≤ u ∧ u < 1024) (hlay : -2147483648 ≤ lay ∧ lay ≤ 2147483647) (hfr : -2147483648 ≤ fr ∧ fr ≤ 2147483647) (hby9 : -2147483648 ≤ by9 ∧ by9 ≤ 2147483647) (hqu : mem 88 3 ≠ 0) (hc : 0 ≤ mem 88 33 ∧ mem 88 33 ≤ 2) (hs : sOk mem (mem 88 33)) (hv : pOkv mem (mem 88 33) (aAt mem (mem 88 33))) (ht : 0 ≤ mem 88 19 ∧ mem 88 19 ≤ 900000000) (hm0 : 0 ≤ mem 88 34) (hr : mem 109 u = -1 → mem 88 34 < 1024) : PM mi_X10_come d [vr 88, vi u, vi lay, vi fr, vi by9] n ok mem n (fun r ok' mem' => ∃ z : Int, r = some (vi (cmB mem u lay fr by9 (oRes mem (mem 88 33) (aAt mem (mem 88 33))) 110 u)) ∧ ok = ok' ∧ wr (cmB mem u lay fr by9 (oRes mem (mem 88 33) (aAt mem (mem 88 33)))) 88 23 z = mem') := by
  obtain ⟨hO, ⟨a89, a90, a91, a92, a93, a94, a95, a96, a97, a98⟩, ⟨a99, a100, a101, a102, a103, a104, a105, a106, a107⟩, ⟨a108, a109, a110, a111, a112, a113, a114, a115, a116, a117, a118, a119⟩, a120, a121, a122⟩ := id hU
  refine PM.of (by decide) (by decide) (Nat.le_refl _) (Nat.le_of_ble_eq_true rfl) ?_
  refine pw_aload_n 0 rfl dX10_come_0 rfl ?_
  refine pw_gR 38 109 dX10_come_1 cOk10 (by assumption) (by decide) kw_1103 (by decide) rfl ?_
  refine pw_iload_n 1 rfl dX10_come_4 rfl ?_
  refine pw_iaload dX10_come_5 (by assumption) (by omega) (by omega) (fun r5 => ?_)
  refine pw_iconst dX10_come_6 ?_
  refine pw_icmp_ne 120 (by decide) dX10_come_7 (by omega) (by omega) (fun c7 => ?_) (fun c7 => ?_)
  · skip
    refine pw_aload_n 0 rfl dX10_come_120 rfl ?_
    refine pw_gR 39 110 dX10_come_121 cOk10 (by assumption) (by decide) kw_1104 (by decide) rfl ?_
    refine pw_iload_n 1 rfl dX10_come_124 rfl ?_
    refine pw_iaload dX10_come_125 (by assumption) (by omega) (by omega) (fun r125 => ?_)
    refine pw_iret dX10_come_126 rfl rfl ?_
    refine ⟨mem 88 23, ?_, rfl, ?_⟩
    · unfold cmB; rw [if_pos c7]
    · unfold cmB; rw [if_pos c7]; exact wr_id _ _ _
  · skip
    have hroom := hr c7
    refine pw_aload_n 0 rfl dX10_come_10 rfl ?_
    refine pw_gR 38 109 dX10_come_11 cOk10 (by assumption) (by decide) kw_1103 (by decide) rfl ?_
    refine pw_iload_n 1 rfl dX10_come_14 rfl ?_
    refine pw_iload_n 2 rfl dX10_come_15 rfl ?_
    refine pw_iastore dX10_come_16 (by assumption) (by omega) (by omega) (by omega) ?_
    refine pw_aload_n 0 rfl dX10_come_17 rfl ?_
    refine pw_gR 39 110 dX10_come_18 cOk10 (by assumption) (by decide) kw_1104 (by decide) rfl ?_
    refine pw_iload_n 1 rfl dX10_come_21 rfl ?_
    refine pw_aload_n 0 rfl dX10_come_22 rfl ?_
    refine pw_gI 34 34 rfl dX10_come_23 cOk10 (by assumption) (by decide) kw_1099 (by decide) (fun r23 => ?_)
    try simp (disch := omega) only [wr_s, wr_a, wr_k] at r23 ⊢
    refine pw_iastore dX10_come_26 (by assumption) (by omega) (by omega) (by omega) ?_
    refine pw_aload_n 0 rfl dX10_come_27 rfl ?_
    refine pw_gR 37 108 dX10_come_28 cOk10 (by assumption) (by decide) kw_1102 (by decide) rfl ?_
    refine pw_aload_n 0 rfl dX10_come_31 rfl ?_
    refine pw_gI 34 34 rfl dX10_come_32 cOk10 (by assumption) (by decide) kw_1099 (by decide) (fun r32 => ?_)
    try simp (disch := omega) only [wr_s, wr_a, wr_k] at r32 ⊢
    refine pw_iload_n 1 rfl dX10_come_35 rfl ?_
    refine pw_iastore dX10_come_36 (by assumption) (by omega) (by omega) (by omega) ?_
    refine pw_aload_n 0 rfl dX10_come_37 rfl ?_
    refine pw_gR 41 112 dX10_come_38 cOk10 (by assumption) (by decide) kw_1106 (by decide) rfl ?_
    refine pw_aload_n 0 rfl dX10_come_41 rfl ?_
    refine pw_gI 34 34 rfl dX10_come_42 cOk10 (by assumption) (by decide) kw_1099 (by decide) (fun r42 => ?_)
    try simp (disch := omega) only [wr_s, wr_a, wr_k] at r42 ⊢
    refine pw_iload_n 3 rfl dX10_come_45 rfl ?_
    refine pw_iastore dX10_come_46 (by assumption) (by omega) (by omega) (by omega) ?_
    refine pw_aload_n 0 rfl dX10_come_47 rfl ?_
    refine pw_gR 42 113 dX10_come_48 cOk10 (by assumption) (by decide) kw_1107 (by decide) rfl ?_
    refine pw_aload_n 0 rfl dX10_come_51 rfl ?_
    refine pw_gI 34 34 rfl dX10_come_52 cOk10 (by assumption) (by decide) kw_1099 (by decide) (fun r52 => ?_)
    try simp (disch := omega) only [wr_s, wr_a, wr_k] at r52 ⊢
    refine pw_iload dX10_come_55 rfl ?_
    refine pw_iastore dX10_come_57 (by assumption) (by omega) (by omega) (by omega) ?_
    refine pw_aload_n 0 rfl dX10_come_58 rfl ?_
    refine pw_gR 40 111 dX10_come_59 cOk10 (by assumption) (by decide) kw_1105 (by decide) rfl ?_
    refine pw_aload_n 0 rfl dX10_come_62 rfl ?_
    refine pw_gI 34 34 rfl dX10_come_63 cOk10 (by assumption) (by decide) kw_1099 (by decide) (fun r63 => ?_)
    try simp (disch := omega) only [wr_s, wr_a, wr_k] at r63 ⊢
    have s5 : sSame mem (wr (wr (wr (wr (wr mem 109 u lay) 110 u (mem 88 34)) 108 (mem 88 34) u) 112 (mem 88 34) fr) 113 (mem 88 34) by9) := fun a q1 q2 q3 => by simp (disch := omega) only [wr_a]
    have e92 : aAt (wr (wr (wr (wr (wr mem 109 u lay) 110 u (mem 88 34)) 108 (mem 88 34) u) 112 (mem 88 34) fr) 113 (mem 88 34) by9) (mem 88 33) = aAt mem (mem 88 33) := by funext s; show (wr (wr (wr (wr (wr mem 109 u lay) 110 u (mem 88 34)) 108 (mem 88 34) u) 112 (mem 88 34) fr) 113 (mem 88 34) by9) 92 _ = mem 92 _; simp (disch := omega) only [wr_a]
    have q3 : (wr (wr (wr (wr (wr mem 109 u lay) 110 u (mem 88 34)) 108 (mem 88 34) u) 112 (mem 88 34) fr) 113 (mem 88 34) by9) 88 3 = mem 88 3 := by simp (disch := omega) only [wr_a]
    have q19 : (wr (wr (wr (wr (wr mem 109 u lay) 110 u (mem 88 34)) 108 (mem 88 34) u) 112 (mem 88 34) fr) 113 (mem 88 34) by9) 88 19 = mem 88 19 := by simp (disch := omega) only [wr_a]
    refine pw_aload_n 0 rfl dX10_come_66 rfl ?_
    refine pw_aload_n 0 rfl dX10_come_67 rfl ?_
    refine pw_gI 33 33 rfl dX10_come_68 cOk10 (by assumption) (by decide) kw_1098 (by decide) (fun r68 => ?_)
    try simp (disch := omega) only [wr_s, wr_a, wr_k] at r68 ⊢
    refine pw_callV (d' := d - 1) (As := [_]) (ci := 10) dX10_come_71 ok_X10_opens kw_1370 rfl rfl (Of.o (by assumption)) (by omega) rfl (Nat.le_of_ble_eq_true rfl) (r_opens (d - 1) (by omega) n ok (wr (wr (wr (wr (wr mem 109 u lay) 110 u (mem 88 34)) 108 (mem 88 34) u) 112 (mem 88 34) fr) 113 (mem 88 34) by9) hU (mem 88 33) (by omega) (sOk_s s5 hs) (by rw [e92]; exact pOkv_s s5 hv) (by rw [q19]; omega)) (Nat.le_refl _) (Or.inl rfl) (fun r ok1 m6 hq => ?_)
    obtain ⟨z, rfl, rfl, em6⟩ := hq
    rw [rEv_q (by rw [q3]; exact hqu)] at em6
    rw [oRes_s s5, e92]
    subst em6
    have h01 := oRes_01 mem (mem 88 33) (aAt mem (mem 88 33))
    refine pw_bastore dX10_come_74 (by assumption) (by omega) (by omega) h01 ?_
    refine pw_aload_n 0 rfl dX10_come_75 rfl ?_
    refine pw_aload_n 0 rfl dX10_come_76 rfl ?_
    refine pw_gR 40 111 dX10_come_77 cOk10 (by assumption) (by decide) kw_1105 (by decide) rfl ?_
    refine pw_aload_n 0 rfl dX10_come_80 rfl ?_
    refine pw_gI 34 34 rfl dX10_come_81 cOk10 (by assumption) (by decide) kw_1099 (by decide) (fun r81 => ?_)
    try simp (disch := omega) only [wr_s, wr_a, wr_k] at r81 ⊢
    refine pw_baload dX10_come_84 (by assumption) (by omega) (by omega) (fun r84 => ?_)
    try simp (disch := omega) only [wr_s, wr_a, wr_k] at r84 ⊢
    refine pw_if_eq 103 (by decide) dX10_come_85 (by omega) (fun c85 => ?_) (fun c85 => ?_)
    · skip
      refine pw_aload_n 0 rfl dX10_come_103 rfl ?_
      refine pw_gI 36 36 rfl dX10_come_104 cOk10 (by assumption) (by decide) kw_1101 (by decide) (fun r104 => ?_)
      try simp (disch := omega) only [wr_s, wr_a, wr_k] at r104 ⊢
      refine pw_pI 36 36 rfl dX10_come_107 cOk10 (by assumption) (by decide) kw_1101 rfl rfl (by decide) (by omega) ?_
      refine pw_aload_n 0 rfl dX10_come_110 rfl ?_
      refine pw_dup dX10_come_111 rfl ?_
      refine pw_gI 34 34 rfl dX10_come_112 cOk10 (by assumption) (by decide) kw_1099 (by decide) (fun r112 => ?_)
      try simp (disch := omega) only [wr_s, wr_a, wr_k] at r112 ⊢
      refine pw_iconst dX10_come_115 ?_
      refine pw_iadd dX10_come_116 ?_
      refine pw_pI 34 34 rfl dX10_come_117 cOk10 (by assumption) (by decide) kw_1099 rfl rfl (by decide) (by omega) ?_
      refine pw_aload_n 0 rfl dX10_come_120 rfl ?_
      refine pw_gR 39 110 dX10_come_121 cOk10 (by assumption) (by decide) kw_1104 (by decide) rfl ?_
      refine pw_iload_n 1 rfl dX10_come_124 rfl ?_
      refine pw_iaload dX10_come_125 (by assumption) (by omega) (by omega) (fun r125 => ?_)
      try simp (disch := omega) only [wr_s, wr_a, wr_k] at r125 ⊢
      refine pw_iret dX10_come_126 rfl rfl ?_
      refine ⟨z, ?_, rfl, ?_⟩
      · have e9 : cmB mem u lay fr by9 (oRes mem (mem 88 33) (aAt mem (mem 88 33))) 110 u = mem 88 34 := by
          unfold cmB; rw [if_neg (fun q => q c7)]; unfold cmN
          simp (disch := omega) only [wr_a, wr_s]
        rw [e9]
      · unfold cmB; rw [if_neg (fun q => q c7)]; unfold cmN
        rw [if_neg (show ¬ ((oRes mem (mem 88 33) (aAt mem (mem 88 33))) ≠ 0 ∧ mem 88 36 = -1) from fun q => q.1 c85)]
        rw [wr_c2 _ _ _ (show ¬ (111 = 88 ∧ mem 88 34 = 23) by omega), wr_c2 _ _ _ (show ¬ (88 = 88 ∧ (36 : Int) = 23) by omega), wr_c2 _ _ _ (show ¬ (88 = 88 ∧ (34 : Int) = 23) by omega)]
    · skip
      refine pw_aload_n 0 rfl dX10_come_88 rfl ?_
      refine pw_gI 36 36 rfl dX10_come_89 cOk10 (by assumption) (by decide) kw_1101 (by decide) (fun r89 => ?_)
      try simp (disch := omega) only [wr_s, wr_a, wr_k] at r89 ⊢
      refine pw_iconst dX10_come_92 ?_
      refine pw_icmp_ne 103 (by decide) dX10_come_93 (by omega) (by omega) (fun c93 => ?_) (fun c93 => ?_)
      · skip
        refine pw_aload_n 0 rfl dX10_come_103 rfl ?_
        refine pw_gI 36 36 rfl dX10_come_104 cOk10 (by assumption) (by decide) kw_1101 (by decide) (fun r104 => ?_)
        try simp (disch := omega) only [wr_s, wr_a, wr_k] at r104 ⊢
        refine pw_pI 36 36 rfl dX10_come_107 cOk10 (by assumption) (by decide) kw_1101 rfl rfl (by decide) (by omega) ?_
        refine pw_aload_n 0 rfl dX10_come_110 rfl ?_
        refine pw_dup dX10_come_111 rfl ?_
        refine pw_gI 34 34 rfl dX10_come_112 cOk10 (by assumption) (by decide) kw_1099 (by decide) (fun r112 => ?_)
        try simp (disch := omega) only [wr_s, wr_a, wr_k] at r112 ⊢
        refine pw_iconst dX10_come_115 ?_
        refine pw_iadd dX10_come_116 ?_
        refine pw_pI 34 34 rfl dX10_come_117 cOk10 (by assumption) (by decide) kw_1099 rfl rfl (by decide) (by omega) ?_
        refine pw_aload_n 0 rfl dX10_come_120 rfl ?_
        refine pw_gR 39 110 dX10_come_121 cOk10 (by assumption) (by decide) kw_1104 (by decide) rfl ?_
        refine pw_iload_n 1 rfl dX10_come_124 rfl ?_
        refine pw_iaload dX10_come_125 (by assumption) (by omega) (by omega) (fun r125 => ?_)
        try simp (disch := omega) only [wr_s, wr_a, wr_k] at r125 ⊢
        refine pw_iret dX10_come_126 rfl rfl ?_
        refine ⟨z, ?_, rfl, ?_⟩
        · have e9 : cmB mem u lay fr by9 (oRes mem (mem 88 33) (aAt mem (mem 88 33))) 110 u = mem 88 34 := by
            unfold cmB; rw [if_neg (fun q => q c7)]; unfold cmN
            simp (disch := omega) only [wr_a, wr_s]
          rw [e9]
        · unfold cmB; rw [if_neg (fun q => q c7)]; unfold cmN
          rw [if_neg (show ¬ ((oRes mem (mem 88 33) (aAt mem (mem 88 33))) ≠ 0 ∧ mem 88 36 = -1) from fun q => c93 q.2)]
          rw [wr_c2 _ _ _ (show ¬ (111 = 88 ∧ mem 88 34 = 23) by omega), wr_c2 _ _ _ (show ¬ (88 = 88 ∧ (36 : Int) = 23) by omega), wr_c2 _ _ _ (show ¬ (88 = 88 ∧ (34 : Int) = 23) by omega)]
      · skip
        refine pw_aload_n 0 rfl dX10_come_96 rfl ?_
        refine pw_gI 34 34 rfl dX10_come_97 cOk10 (by assumption) (by decide) kw_1099 (by decide) (fun r97 => ?_)
        try simp (disch := omega) only [wr_s, wr_a, wr_k] at r97 ⊢
        refine pw_goto 107 (by decide) dX10_come_100 ?_
        refine pw_pI 36 36 rfl dX10_come_107 cOk10 (by assumption) (by decide) kw_1101 rfl rfl (by decide) (by omega) ?_
        refine pw_aload_n 0 rfl dX10_come_110 rfl ?_
        refine pw_dup dX10_come_111 rfl ?_
        refine pw_gI 34 34 rfl dX10_come_112 cOk10 (by assumption) (by decide) kw_1099 (by decide) (fun r112 => ?_)
        try simp (disch := omega) only [wr_s, wr_a, wr_k] at r112 ⊢
        refine pw_iconst dX10_come_115 ?_
        refine pw_iadd dX10_come_116 ?_
        refine pw_pI 34 34 rfl dX10_come_117 cOk10 (by assumption) (by decide) kw_1099 rfl rfl (by decide) (by omega) ?_
        refine pw_aload_n 0 rfl dX10_come_120 rfl ?_
        refine pw_gR 39 110 dX10_come_121 cOk10 (by assumption) (by decide) kw_1104 (by decide) rfl ?_
        refine pw_iload_n 1 rfl dX10_come_124 rfl ?_
        refine pw_iaload dX10_come_125 (by assumption) (by omega) (by omega) (fun r125 => ?_)
        try simp (disch := omega) only [wr_s, wr_a, wr_k] at r125 ⊢
        refine pw_iret dX10_come_126 rfl rfl ?_
        refine ⟨z, ?_, rfl, ?_⟩
        · have e9 : cmB mem u lay fr by9 (oRes mem (mem 88 33) (aAt mem (mem 88 33))) 110 u = mem 88 34 := by
            unfold cmB; rw [if_neg (fun q => q c7)]; unfold cmN
            simp (disch := omega) only [wr_a, wr_s]
          rw [e9]
        · unfold cmB; rw [if_neg (fun q => q c7)]; unfold cmN
          rw [if_pos (show (oRes mem (mem 88 33) (aAt mem (mem 88 33))) ≠ 0 ∧ mem 88 36 = -1 from ⟨c85, c93⟩)]
          rw [wr_c2 _ _ _ (show ¬ (111 = 88 ∧ mem 88 34 = 23) by omega), wr_c2 _ _ _ (show ¬ (88 = 88 ∧ (36 : Int) = 23) by omega), wr_c2 _ _ _ (show ¬ (88 = 88 ∧ (34 : Int) = 23) by omega)]
theorem cmN_v (b : pM) (u lay fr by' op : Int) : (∀ x, cmN b u lay fr by' op 109 x = if x = u then lay else b 109 x) ∧ (∀ x, cmN b u lay fr by' op 110 x = if x = u then b 88 34 else b 110 x) ∧ (∀ x, cmN b u lay fr by' op 108 x = if x = b 88 34 then u else b 108 x) ∧ (∀ x, cmN b u lay fr by' op 112 x = if x = b 88 34 then fr else b 112 x) ∧ (∀ x, cmN b u lay fr by' op 113 x = if x = b 88 34 then by' else b 113 x) ∧ (∀ x, cmN b u lay fr by' op 111 x = if x = b 88 34 then op else b 111 x) ∧ cmN b u lay fr by' op 88 34 = b 88 34 + 1 ∧ cmN b u lay fr by' op 88 36 = (if op ≠ 0 ∧ b 88 36 = -1 then b 88 34 else b 88 36) ∧ (∀ k, k ≠ 34 → k ≠ 36 → cmN b u lay fr by' op 88 k = b 88 k) ∧ (∀ a, a ≠ 88 → (a < 108 ∨ 113 < a) → cmN b u lay fr by' op a = b a) := by
  unfold cmN
  refine ⟨fun x => ?_, fun x => ?_, fun x => ?_, fun x => ?_, fun x => ?_, fun x => ?_, ?_, ?_, fun k h1 h2 => ?_, fun a h1 h2 => ?_⟩
  · simp (disch := omega) only [wr_a]; unfold wr; simp
  · simp (disch := omega) only [wr_a]; unfold wr; simp
  · simp (disch := omega) only [wr_a]; unfold wr; simp
  · simp (disch := omega) only [wr_a]; unfold wr; simp
  · simp (disch := omega) only [wr_a]; unfold wr; simp
  · simp (disch := omega) only [wr_a]; unfold wr; simp
  · rw [wr_s]
  · rw [wr_k _ _ _ _ (by omega), wr_s]
  · rw [wr_k _ _ _ _ h1, wr_k _ _ _ _ h2]; simp (disch := omega) only [wr_a]
  · simp (disch := omega) only [wr_a]
/-- what was come to stays as it is -/
def SE (b b' : pM) : Prop := b 88 34 ≤ b' 88 34 ∧ (∀ x, b 109 x ≠ -1 → b' 109 x = b 109 x ∧ b' 110 x = b 110 x) ∧ (∀ k, k < b 88 34 → b' 108 k = b 108 k ∧ b' 111 k = b 111 k ∧ b' 112 k = b 112 k ∧ b' 113 k = b 113 k)
/-- the chests and all but the search stay as they are -/
def SF (b b' : pM) : Prop := (∀ a, a ≠ 88 → (a < 108 ∨ 114 < a) → b' a = b a) ∧ (∀ k, k ≠ 34 → k ≠ 35 → k ≠ 36 → b' 88 k = b 88 k)
theorem SE.rf (b : pM) : SE b b := ⟨Int.le_refl _, fun _ _ => ⟨rfl, rfl⟩, fun _ _ => ⟨rfl, rfl, rfl, rfl⟩⟩
theorem SE.tr {a b e : pM} (h : SE a b) (g : SE b e) : SE a e := ⟨Int.le_trans h.1 g.1, fun x hx => by
    have h1 := h.2.1 x hx
    have h2 := g.2.1 x (by rw [h1.1]; exact hx)
    exact ⟨h2.1.trans h1.1, h2.2.trans h1.2⟩, fun k hk => by
    have h1 := h.2.2 k hk
    have h2 := g.2.2 k (by have := h.1; omega)
    exact ⟨h2.1.trans h1.1, h2.2.1.trans h1.2.1, h2.2.2.1.trans h1.2.2.1, h2.2.2.2.trans h1.2.2.2⟩⟩
theorem SF.rf (b : pM) : SF b b := ⟨fun _ _ _ => rfl, fun _ _ _ _ => rfl⟩
theorem SF.tr {a b e : pM} (h : SF a b) (g : SF b e) : SF a e := ⟨fun x h1 h2 => (g.1 x h1 h2).trans (h.1 x h1 h2), fun k h1 h2 h3 => (g.2 k h1 h2 h3).trans (h.2 k h1 h2 h3)⟩
theorem cmB_F (b : pM) (u lay fr by' op : Int) : SF b (cmB b u lay fr by' op) ∧ cmB b u lay fr by' op 88 35 = b 88 35 ∧ cmB b u lay fr by' op 114 = b 114 := by
  unfold cmB
  split
  · exact ⟨SF.rf b, rfl, rfl⟩
  · have h := cmN_v b u lay fr by' op
    exact ⟨⟨fun a h1 h2 => h.2.2.2.2.2.2.2.2.2 a h1 (by omega), fun k h1 h2 h3 => h.2.2.2.2.2.2.2.2.1 k h1 h3⟩, h.2.2.2.2.2.2.2.2.1 35 (by omega) (by omega), h.2.2.2.2.2.2.2.2.2 114 (by omega) (by omega)⟩
theorem cmB_E {b : pM} (hq : SIq b) {u lay fr by' op : Int} : SE b (cmB b u lay fr by' op) := by
  unfold cmB
  split
  · exact SE.rf b
  · rename_i hx
    obtain ⟨h109, h110, h108, h112, h113, h111, h34, h36, hk, ha⟩ := cmN_v b u lay fr by' op
    have hu : b 109 u = -1 := Decidable.not_not.mp hx
    refine ⟨by rw [h34]; omega, fun x q => ?_, fun k q => ?_⟩
    · have e : x ≠ u := fun z => by subst z; exact q hu
      rw [h109, h110, if_neg e, if_neg e]; exact ⟨rfl, rfl⟩
    · have e : k ≠ b 88 34 := by omega
      rw [h108, h111, h112, h113, if_neg e, if_neg e, if_neg e, if_neg e]; exact ⟨rfl, rfl, rfl, rfl⟩
theorem cmB_q {b : pM} (hq : SIq b) {u lay fr by' op : Int} (hu : 0 ≤ u ∧ u < 1024) (hl : (lay = 0 ∨ (0 ≤ fr ∧ fr < b 88 34 ∧ lay = b 109 (b 108 fr) + 1))) : SIq (cmB b u lay fr by' op) ∧ cmB b u lay fr by' op 109 u ≠ -1 ∧ cmB b u lay fr by' op 88 34 ≤ b 88 34 + 1 := by
  unfold cmB
  split
  · rename_i hx; exact ⟨hq, hx, by omega⟩
  · rename_i hx
    have hx : b 109 u = -1 := Decidable.not_not.mp hx
    obtain ⟨h109, h110, h108, h112, h113, h111, h34, h36, hk, ha⟩ := cmN_v b u lay fr by' op
    have hr := hq.room hu.1 hu.2 hx
    have h0 := hq.1
    have hne : ∀ k, 0 ≤ k → k < b 88 34 → b 108 k ≠ u := fun k k1 k2 z => by
      have := (hq.2.1 k k1 k2).2.2.2.1
      rw [z, hx] at this; omega
    have hlay : 0 ≤ lay ∧ lay ≤ b 88 34 := by
      rcases hl with z | z
      · omega
      · have := (hq.2.1 fr z.1 z.2.1); omega
    refine ⟨⟨?_, ?_, ?_, ?_, ?_⟩, ?_, ?_⟩
    · rw [h34, h36, hk 35 (by omega) (by omega)]; split <;> omega
    · intro k k1 k2
      rw [h34] at k2
      rw [h108]
      by_cases e : k = b 88 34
      · rw [if_pos e, h109, h110, if_pos rfl, if_pos rfl]; omega
      · have g := hq.2.1 k k1 (by omega)
        have g2 := hne k k1 (by omega)
        rw [if_neg e, h109, h110, if_neg g2, if_neg g2]; exact g
    · intro x x1 x2
      rw [h109, h110, h34]
      by_cases e : x = u
      · rw [if_pos e, if_pos e, h108, if_pos rfl]; exact Or.inr ⟨h0.1, by omega, e.symm⟩
      · rw [if_neg e, if_neg e]
        rcases hq.2.2.1 x x1 x2 with z | z
        · exact Or.inl z
        · rw [h108, if_neg (by omega)]; exact Or.inr ⟨z.1, by omega, z.2.2⟩
    · intro k k1 k2
      rw [h34] at k2
      rw [h108, h112]
      by_cases e : k = b 88 34
      · rw [if_pos e, if_pos e, h109, if_pos rfl]
        intro l1
        rcases hl with z | z
        · omega
        · have g2 := hne fr z.1 z.2.1
          rw [h108, if_neg (by omega), h109, if_neg g2]
          omega
      · have g2 := hne k k1 (by omega)
        rw [if_neg e, if_neg e, h109, if_neg g2]
        intro l1
        have g := hq.2.2.2.1 k k1 (by omega) l1
        have g3 := hne (b 112 k) g.1 (by omega)
        rw [h108, if_neg (by omega), h109, if_neg g3]
        exact g
    · intro e e1 e2
      rw [hk 35 (by omega) (by omega)] at e2
      rw [ha 114 (by omega) (by omega), h34]
      rcases hq.2.2.2.2 e e1 e2 with z | z
      · exact Or.inl z
      · exact Or.inr ⟨z.1, by omega⟩
    · rw [h109, if_pos rfl]; omega
    · rw [h34]; omega
