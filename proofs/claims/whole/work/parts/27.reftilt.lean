/-! ===== falling: the contract ===== -/
theorem iXor_ran (x y : Int) : -2147483648 ≤ iXor x y ∧ iXor x y ≤ 2147483647 := by
  have h1 := Int32.le_toInt (Int32.ofInt x ^^^ Int32.ofInt y)
  have h2 := Int32.toInt_lt (Int32.ofInt x ^^^ Int32.ofInt y)
  unfold iXor
  omega
theorem tGo_succ (m : pM) (c t : Int) (s : Nat) (v : Int → Int) : tGo m c t (s + 1) v = ((tSt m c t s (tGo m c t s v).1).1, (tGo m c t s v).2 ++ (tSt m c t s (tGo m c t s v).1).2) := rfl
theorem faGo_succ (m : pM) (c s dy : Int) (f : Nat) (v : Int → Int) : faGo m c s dy (f + 1) v = if 0 ≤ v s + dy ∧ v s + dy ≤ aSpan m c s - 1 then (if (fRes m c v s).1 = -1 then ((faGo m c s dy f (vUp v s (v s + dy))).1, (fRes m c v s).2 ++ (faGo m c s dy f (vUp v s (v s + dy))).2) else (v, (fRes m c v s).2)) else (v, []) := rfl
theorem faGo_len {m : pM} {c : Int} (hs : 0 ≤ aNc m c ∧ aNc m c ≤ 40) (s dy : Int) (f : Nat) (v : Int → Int) : (faGo m c s dy f v).2.length ≤ 120 * f := by
  induction f generalizing v with
  | zero => exact Nat.zero_le _
  | succ f ih =>
    have h1 := fRes_len (m := m) (c := c) v s hs
    have h2 := ih (vUp v s (v s + dy))
    rw [faGo_succ]
    split
    · split
      · show ((fRes m c v s).2 ++ (faGo m c s dy f (vUp v s (v s + dy))).2).length ≤ _
        rw [List.length_append]; omega
      · show (fRes m c v s).2.length ≤ _; omega
    · exact Nat.zero_le _
theorem tSt_len {m : pM} {c : Int} (hs : 0 ≤ aNc m c ∧ aNc m c ≤ 40) (t s : Int) (v : Int → Int) : (tSt m c t s v).2.length ≤ 842 := by
  have h1 := faGo_len hs s (tBy m c t s) 7 v
  unfold tSt
  split
  · exact Nat.zero_le _
  · split
    · split
      · show 1 ≤ 842; omega
      · show (faGo m c s (tBy m c t s) 7 v).2.length + 1 + 1 ≤ 842; omega
    · show (faGo m c s (tBy m c t s) 7 v).2.length + 1 ≤ 842; omega
theorem tGo_len {m : pM} {c : Int} (hs : 0 ≤ aNc m c ∧ aNc m c ≤ 40) (t : Int) (k : Nat) (v : Int → Int) : (tGo m c t k v).2.length ≤ 842 * k := by
  induction k with
  | zero => exact Nat.zero_le _
  | succ k ih =>
    have := tSt_len hs t k (tGo m c t k v).1
    rw [tGo_succ, List.length_append]; omega
set_option maxHeartbeats 4000000 in
set_option maxRecDepth 100000 in
theorem r_tilts (d : Nat) (hd : 4 ≤ d) (n : Nat) (ok : pO) (mem : pM) (hU : RefUp n ok) (c t : Int) (hc : 0 ≤ c ∧ c ≤ 2) (htt : 0 ≤ t ∧ t ≤ 5) (hs : sOk mem c) (hv : pOkv mem c (aAt mem c)) (ht : 0 ≤ mem 88 19 ∧ mem 88 19 ≤ 800000000) : PM mi_X10_tilts d [vr 88, vi c, vi t] n ok mem n (fun r ok' mem' => ∃ z : Int, r = none ∧ ok = ok' ∧ vMem mem mem' c (tGo mem c t 16 (aAt mem c)).1 (tGo mem c t 16 (aAt mem c)).2 z) := by
  obtain ⟨hO, ⟨a89, a90, a91, a92, a93, a94, a95, a96, a97, a98⟩, ⟨a99, a100, a101, a102, a103, a104, a105, a106, a107⟩, ⟨a108, a109, a110, a111, a112, a113, a114, a115, a116, a117, a118, a119⟩, a120, a121, a122⟩ := id hU
  refine PM.of (by decide) (by decide) (Nat.le_refl _) (Nat.le_of_ble_eq_true rfl) ?_
  refine pw_iconst dX10_tilts_0 ?_
  refine pw_istore_n 3 rfl dX10_tilts_1 (by decide) ?_
  have lp2 : ∀ (kz : Nat) (s : Nat) (v : Int → Int) (ev : pEv) (z : Int) (m1 : pM), 16 - (s : Int) < (kz : Int) → (s ≤ 16) → (tGo mem c t s (aAt mem c) = (v, ev)) → (vMem mem m1 c v ev z) → (pOkv mem c v) → (ev.length ≤ 900 * s) → PW mi_X10_tilts d n n (fun r ok' mem' => ∃ z : Int, r = none ∧ ok = ok' ∧ vMem mem mem' c (tGo mem c t 16 (aAt mem c)).1 (tGo mem c t 16 (aAt mem c)).2 z) 2 [(0, vr 88), (1, vi c), (2, vi t), (3, vi (s : Int))] [] n ok m1 := by
    intro kz
    induction kz with
    | zero =>
      intro s v ev z m1 hk hs16 e0 hM hvv hl
      exact absurd hk (by omega)
    | succ kz ih =>
      intro s v ev z m1 hk hs16 e0 hM hvv hl
      have q90 := hM.s.kind
      have q91 := hM.s.span
      have q93 := hM.s.side
      have htr := hM.tr ht.1
      have hxr := iXor_ran t 1
      refine pw_iload_n 3 rfl dX10_tilts_2 rfl ?_
      refine pw_bipush dX10_tilts_3 (by decide) ?_
      refine pw_icmp_ge 189 (by decide) dX10_tilts_5 (by omega) (by omega) (fun c5 => ?_) (fun c5 => ?_)
      · skip
        refine pw_vret dX10_tilts_189 rfl rfl ?_
        have e16 : s = 16 := by omega
        subst e16
        exact ⟨z, rfl, rfl, by rw [e0]; exact hM⟩
      · skip
        refine pw_bipush dX10_tilts_8 (by decide) ?_
        refine pw_iload_n 1 rfl dX10_tilts_10 rfl ?_
        refine pw_imul dX10_tilts_11 ?_
        refine pw_iload_n 3 rfl dX10_tilts_12 rfl ?_
        refine pw_iadd dX10_tilts_13 ?_
        refine pw_istore dX10_tilts_14 (by decide) ?_
        refine pw_aload_n 0 rfl dX10_tilts_16 rfl ?_
        refine pw_gR 5 90 dX10_tilts_17 cOk10 (by assumption) (by decide) kw_1070 (by decide) rfl ?_
        refine pw_iload dX10_tilts_20 rfl ?_
        refine pw_iaload dX10_tilts_22 (by assumption) (by omega) (by omega) (fun r22 => ?_)
        try simp (disch := omega) only [wr_s, wr_a, wr_k] at r22 ⊢
        rw [q90] at r22 ⊢
        refine pw_iconst dX10_tilts_23 ?_
        refine pw_icmp_eq 42 (by decide) dX10_tilts_24 (by omega) (by omega) (fun c24 => ?_) (fun c24 => ?_)
        · skip
          refine pw_aload_n 0 rfl dX10_tilts_42 rfl ?_
          refine pw_gR 8 93 dX10_tilts_43 cOk10 (by assumption) (by decide) kw_1073 (by decide) rfl ?_
          refine pw_iload dX10_tilts_46 rfl ?_
          refine pw_iaload dX10_tilts_48 (by assumption) (by omega) (by omega) (fun r48 => ?_)
          try simp (disch := omega) only [wr_s, wr_a, wr_k] at r48 ⊢
          rw [q93] at r48 ⊢
          refine pw_iload_n 2 rfl dX10_tilts_49 rfl ?_
          refine pw_icmp_ne 57 (by decide) dX10_tilts_50 (by omega) (by omega) (fun c50 => ?_) (fun c50 => ?_)
          · skip
            refine pw_aload_n 0 rfl dX10_tilts_57 rfl ?_
            refine pw_gR 8 93 dX10_tilts_58 cOk10 (by assumption) (by decide) kw_1073 (by decide) rfl ?_
            refine pw_iload dX10_tilts_61 rfl ?_
            refine pw_iaload dX10_tilts_63 (by assumption) (by omega) (by omega) (fun r63 => ?_)
            try simp (disch := omega) only [wr_s, wr_a, wr_k] at r63 ⊢
            rw [q93] at r63 ⊢
            refine pw_iload_n 2 rfl dX10_tilts_64 rfl ?_
            refine pw_iconst dX10_tilts_65 ?_
            refine pw_ixor dX10_tilts_66 ?_
            refine pw_icmp_ne 74 (by decide) dX10_tilts_67 (by omega) (by omega) (fun c67 => ?_) (fun c67 => ?_)
            · skip
              refine pw_iconst dX10_tilts_74 ?_
              refine pw_istore dX10_tilts_75 (by decide) ?_
              have hby : tBy mem c t (s : Int) = 0 := by unfold tBy; simp only [aKind, aSide]; (repeat' split) <;> omega
              refine pw_iload dX10_tilts_77 rfl ?_
              refine pw_if_ne 85 (by decide) dX10_tilts_79 (by omega) (fun c79 => ?_) (fun c79 => ?_)
              · skip
                exfalso; omega
              · skip
                have hTn : tGo mem c t (s + 1) (aAt mem c) = (v, ev) := by rw [tGo_succ, e0]; unfold tSt; rw [if_pos hby, List.append_nil]
                have hMn := hM
                have hvn := hvv
                have hln : ev.length ≤ 900 * (s + 1) := by omega
                refine pw_goto 183 (by decide) dX10_tilts_82 ?_
                refine pw_iinc dX10_tilts_183 rfl (by decide) ?_
                refine pw_goto 2 (by decide) dX10_tilts_186 ?_
                exact pw_locs _ rfl (ih (s + 1) _ _ _ _ (by omega) (by omega) hTn hMn hvn hln)
            · skip
              refine pw_iconst dX10_tilts_70 ?_
              refine pw_goto 75 (by decide) dX10_tilts_71 ?_
              refine pw_istore dX10_tilts_75 (by decide) ?_
              have hby : tBy mem c t (s : Int) = -1 := by unfold tBy; simp only [aKind, aSide]; (repeat' split) <;> omega
              refine pw_iload dX10_tilts_77 rfl ?_
              refine pw_if_ne 85 (by decide) dX10_tilts_79 (by omega) (fun c79 => ?_) (fun c79 => ?_)
              · skip
                have hkn : aKind mem c (s : Int) ≠ -1 := by show mem 90 _ ≠ -1; omega
                have hpp : 1 ≤ mem 91 (16 * c + (s : Int)) ∧ mem 91 (16 * c + (s : Int)) ≤ 6 := hs.2.2 (s : Int) (by omega) (by omega) hkn
                have hva : 0 ≤ v (s : Int) ∧ v (s : Int) < mem 91 (16 * c + (s : Int)) := hvv (s : Int) (by omega) (by omega) hkn
                refine pw_aload_n 0 rfl dX10_tilts_85 rfl ?_
                refine pw_gR 5 90 dX10_tilts_86 cOk10 (by assumption) (by decide) kw_1070 (by decide) rfl ?_
                refine pw_iload dX10_tilts_89 rfl ?_
                refine pw_iaload dX10_tilts_91 (by assumption) (by omega) (by omega) (fun r91 => ?_)
                try simp (disch := omega) only [wr_s, wr_a, wr_k] at r91 ⊢
                rw [q90] at r91 ⊢
                refine pw_iconst dX10_tilts_92 ?_
                refine pw_icmp_ne 124 (by decide) dX10_tilts_93 (by omega) (by omega) (fun c93 => ?_) (fun c93 => ?_)
                · skip
                  refine pw_aload_n 0 rfl dX10_tilts_124 rfl ?_
                  refine pw_bipush dX10_tilts_125 (by decide) ?_
                  refine pw_callV (d' := d - 1) (As := [_]) (ci := 10) dX10_tilts_127 ok_X10_writes kw_1386 rfl rfl (Of.o (by assumption)) (by omega) rfl (Nat.le_of_ble_eq_true rfl) (r_writes (d - 1) (by omega) n ok m1 hU 13 (by omega) (by omega)) (Nat.le_refl _) (Or.inl rfl) (fun r ok1 mB hq => ?_)
                  obtain ⟨rfl, rfl, emB⟩ := hq
                  have hMw := hM.w 13
                  rw [emB] at hMw
                  have hT0 : tGo mem c t (s + 1) (aAt mem c) = ((faGo mem c (s : Int) (-1) 7 v).1, ev ++ [(true, 13)] ++ (faGo mem c (s : Int) (-1) 7 v).2) := by
                    rw [tGo_succ, e0]; unfold tSt; rw [hby, if_neg (by omega), if_neg (by simp only [aKind]; omega)]; simp only [List.append_assoc, List.cons_append, List.nil_append]
                  have lp130 : ∀ (kz2 : Nat) (f : Nat) (v2 : Int → Int) (ev2 : pEv) (z2 : Int) (m2 : pM), (f : Int) < (kz2 : Int) → (tGo mem c t (s + 1) (aAt mem c) = ((faGo mem c (s : Int) (-1) f v2).1, ev2 ++ (faGo mem c (s : Int) (-1) f v2).2)) → (vMem mem m2 c v2 ev2 z2) → (pOkv mem c v2) → (ev2.length + 120 * f ≤ 900 * (s + 1)) → (v2 (s : Int) + 1 ≤ f) → PW mi_X10_tilts d n n (fun r ok' mem' => ∃ z : Int, r = none ∧ ok = ok' ∧ vMem mem mem' c (tGo mem c t 16 (aAt mem c)).1 (tGo mem c t 16 (aAt mem c)).2 z) 130 [(0, vr 88), (1, vi c), (2, vi t), (3, vi (s : Int)), (4, vi (16 * c + (s : Int))), (5, vi (-1))] [] n ok m2 := by
                    intro kz2
                    induction kz2 with
                    | zero =>
                      intro f v2 ev2 z2 m2 hk2 hT hM2 hv2 hl2 hfu
                      exact absurd hk2 (by omega)
                    | succ kz2 ih2 =>
                      intro f v2 ev2 z2 m2 hk2 hT hM2 hv2 hl2 hfu
                      have hx2 : m2 92 (16 * c + (s : Int)) = v2 (s : Int) := hM2.2.1 (s : Int) (by omega) (by omega)
                      have q91b := hM2.s.span
                      have hvs : 0 ≤ v2 (s : Int) ∧ v2 (s : Int) < mem 91 (16 * c + (s : Int)) := hv2 (s : Int) (by omega) (by omega) hkn
                      obtain ⟨f, rfl⟩ : ∃ f1, f = f1 + 1 := ⟨f - 1, by omega⟩
                      have hF := faGo_succ mem c (s : Int) (-1) f v2
                      have htr2 := hM2.tr ht.1
                      refine pw_aload_n 0 rfl dX10_tilts_130 rfl ?_
                      refine pw_gR 7 92 dX10_tilts_131 cOk10 (by assumption) (by decide) kw_1072 (by decide) rfl ?_
                      refine pw_iload dX10_tilts_134 rfl ?_
                      refine pw_iaload dX10_tilts_136 (by assumption) (by omega) (by omega) (fun r136 => ?_)
                      try simp (disch := omega) only [wr_s, wr_a, wr_k] at r136 ⊢
                      rw [hx2] at r136 ⊢
                      refine pw_iload dX10_tilts_137 rfl ?_
                      refine pw_iadd dX10_tilts_139 ?_
                      refine pw_i2l dX10_tilts_140 (by omega) ?_
                      refine pw_lconst (x := 0) dX10_tilts_141 (by decide) ?_
                      refine pw_aload_n 0 rfl dX10_tilts_142 rfl ?_
                      refine pw_gR 6 91 dX10_tilts_143 cOk10 (by assumption) (by decide) kw_1071 (by decide) rfl ?_
                      refine pw_iload dX10_tilts_146 rfl ?_
                      refine pw_iaload dX10_tilts_148 (by assumption) (by omega) (by omega) (fun r148 => ?_)
                      try simp (disch := omega) only [wr_s, wr_a, wr_k] at r148 ⊢
                      rw [q91b] at r148 ⊢
                      refine pw_iconst dX10_tilts_149 ?_
                      refine pw_isub dX10_tilts_150 ?_
                      refine pw_i2l dX10_tilts_151 (by omega) ?_
                      refine pw_callS (d' := d - 1) (As := [_, _, _]) dX10_tilts_152 ok_X10_in kw_1245 (by omega) rfl (Nat.le_of_ble_eq_true rfl) (r_in (d - 1) (by omega) n ok m2 (v2 (s : Int) + (-1)) 0 (mem 91 (16 * c + (s : Int)) - 1) (by omega) (by omega) (by omega)) (Nat.le_refl _) (Or.inl rfl) (fun r ok1 mem1 hq => ?_)
                      obtain ⟨rfl, rfl, rfl⟩ := hq
                      refine pw_if_eq 183 (by decide) dX10_tilts_155 (by split <;> omega) (fun c155 => ?_) (fun c155 => ?_)
                      · skip
                        have hg : ¬ (0 ≤ v2 (s : Int) + (-1) ∧ v2 (s : Int) + (-1) ≤ mem 91 (16 * c + (s : Int)) - 1) := by revert c155; split <;> intro h <;> first | assumption | (exfalso; omega)
                        rw [if_neg hg] at hF
                        have hTn : tGo mem c t (s + 1) (aAt mem c) = (v2, ev2) := by rw [hT, hF, List.append_nil]
                        have hMn := hM2
                        have hvn := hv2
                        have hln : ev2.length ≤ 900 * (s + 1) := by omega
                        refine pw_iinc dX10_tilts_183 rfl (by decide) ?_
                        refine pw_goto 2 (by decide) dX10_tilts_186 ?_
                        exact pw_locs _ rfl (ih (s + 1) _ _ _ _ (by omega) (by omega) hTn hMn hvn hln)
                      · skip
                        have hg : (0 ≤ v2 (s : Int) + (-1) ∧ v2 (s : Int) + (-1) ≤ mem 91 (16 * c + (s : Int)) - 1) := by revert c155; split <;> intro h <;> first | assumption | (exfalso; omega)
                        rw [if_pos hg] at hF
                        refine pw_aload_n 0 rfl dX10_tilts_158 rfl ?_
                        refine pw_iload_n 1 rfl dX10_tilts_159 rfl ?_
                        refine pw_iload_n 3 rfl dX10_tilts_160 rfl ?_
                        refine pw_callV (d' := d - 1) (As := [_, _]) (ci := 10) dX10_tilts_161 ok_X10_failing kw_1374 rfl rfl (Of.o (by assumption)) (by omega) rfl (Nat.le_of_ble_eq_true rfl) (r_failing (d - 1) (by omega) n ok m2 hU c (s : Int) hc (by omega) (sOk_s hM2.s hs) (pOkv_v hM2.at (pOkv_s hM2.s hv2)) (by omega)) (Nat.le_refl _) (Or.inl rfl) (fun r ok1 m3 hq => ?_)
                        obtain ⟨z3, rfl, rfl, em3⟩ := hq
                        rw [fRes_v (sOk_s hM2.s hs) hM2.at, fRes_s hM2.s] at em3 ⊢
                        have hM3 := hM2.e (fRes mem c v2 (s : Int)).2 z3
                        rw [em3] at hM3
                        have hfr := fRes_ran (m := mem) (c := c) v2 (s : Int) hs.1
                        have hnc : 0 ≤ mem 94 c ∧ mem 94 c ≤ 40 := hs.1
                        have hfr : -1 ≤ (fRes mem c v2 (s : Int)).1 ∧ (fRes mem c v2 (s : Int)).1 < mem 94 c ∨ (fRes mem c v2 (s : Int)).1 = -1 := hfr
                        have hfl := fRes_len (m := mem) (c := c) v2 (s : Int) hs.1
                        have hx3 : m3 92 (16 * c + (s : Int)) = v2 (s : Int) := hM3.2.1 (s : Int) (by omega) (by omega)
                        refine pw_iconst dX10_tilts_164 ?_
                        refine pw_icmp_ne 183 (by decide) dX10_tilts_165 (by omega) (by omega) (fun c165 => ?_) (fun c165 => ?_)
                        · skip
                          rw [if_neg c165] at hF
                          have hTn : tGo mem c t (s + 1) (aAt mem c) = (v2, ev2 ++ (fRes mem c v2 (s : Int)).2) := by rw [hT, hF]
                          have hMn := hM3
                          have hvn := hv2
                          have hln : (ev2 ++ (fRes mem c v2 (s : Int)).2).length ≤ 900 * (s + 1) := by rw [List.length_append]; omega
                          refine pw_iinc dX10_tilts_183 rfl (by decide) ?_
                          refine pw_goto 2 (by decide) dX10_tilts_186 ?_
                          exact pw_locs _ rfl (ih (s + 1) _ _ _ _ (by omega) (by omega) hTn hMn hvn hln)
                        · skip
                          rw [if_pos c165] at hF
                          refine pw_aload_n 0 rfl dX10_tilts_168 rfl ?_
                          refine pw_gR 7 92 dX10_tilts_169 cOk10 (by assumption) (by decide) kw_1072 (by decide) rfl ?_
                          refine pw_iload dX10_tilts_172 rfl ?_
                          refine pw_dup2 dX10_tilts_174 rfl rfl ?_
                          refine pw_iaload dX10_tilts_175 (by assumption) (by omega) (by omega) (fun r175 => ?_)
                          try simp (disch := omega) only [wr_s, wr_a, wr_k] at r175 ⊢
                          rw [hx3] at r175 ⊢
                          refine pw_iload dX10_tilts_176 rfl ?_
                          refine pw_iadd dX10_tilts_178 ?_
                          refine pw_iastore dX10_tilts_179 (by assumption) (by omega) (by omega) (by omega) ?_
                          refine pw_goto 130 (by decide) dX10_tilts_180 ?_
                          exact pw_locs _ rfl (ih2 f (vUp v2 (s : Int) (v2 (s : Int) + (-1))) (ev2 ++ (fRes mem c v2 (s : Int)).2) z3 _ (by omega) (by rw [hT, hF, List.append_assoc]) (hM3.put (v2 (s : Int) + (-1)) (by omega) (by omega)) (pOkv_up hv2 (by show 0 ≤ _ ∧ _ < mem 91 _; omega)) (by rw [List.length_append]; omega) (by unfold vUp; rw [if_pos rfl]; omega))
                  exact pw_locs _ rfl (lp130 8 7 v (ev ++ [(true, 13)]) z _ (by omega) hT0 hMw hvv (by simp only [List.length_append, List.length_cons, List.length_nil]; omega) (by omega))
                · skip
                  exfalso; omega
              · skip
                exfalso; omega
          · skip
            refine pw_iconst dX10_tilts_53 ?_
            refine pw_goto 75 (by decide) dX10_tilts_54 ?_
            refine pw_istore dX10_tilts_75 (by decide) ?_
            have hby : tBy mem c t (s : Int) = 1 := by unfold tBy; simp only [aKind, aSide]; (repeat' split) <;> omega
            refine pw_iload dX10_tilts_77 rfl ?_
            refine pw_if_ne 85 (by decide) dX10_tilts_79 (by omega) (fun c79 => ?_) (fun c79 => ?_)
            · skip
              have hkn : aKind mem c (s : Int) ≠ -1 := by show mem 90 _ ≠ -1; omega
              have hpp : 1 ≤ mem 91 (16 * c + (s : Int)) ∧ mem 91 (16 * c + (s : Int)) ≤ 6 := hs.2.2 (s : Int) (by omega) (by omega) hkn
              have hva : 0 ≤ v (s : Int) ∧ v (s : Int) < mem 91 (16 * c + (s : Int)) := hvv (s : Int) (by omega) (by omega) hkn
              refine pw_aload_n 0 rfl dX10_tilts_85 rfl ?_
              refine pw_gR 5 90 dX10_tilts_86 cOk10 (by assumption) (by decide) kw_1070 (by decide) rfl ?_
              refine pw_iload dX10_tilts_89 rfl ?_
              refine pw_iaload dX10_tilts_91 (by assumption) (by omega) (by omega) (fun r91 => ?_)
              try simp (disch := omega) only [wr_s, wr_a, wr_k] at r91 ⊢
              rw [q90] at r91 ⊢
              refine pw_iconst dX10_tilts_92 ?_
              refine pw_icmp_ne 124 (by decide) dX10_tilts_93 (by omega) (by omega) (fun c93 => ?_) (fun c93 => ?_)
              · skip
                refine pw_aload_n 0 rfl dX10_tilts_124 rfl ?_
                refine pw_bipush dX10_tilts_125 (by decide) ?_
                refine pw_callV (d' := d - 1) (As := [_]) (ci := 10) dX10_tilts_127 ok_X10_writes kw_1386 rfl rfl (Of.o (by assumption)) (by omega) rfl (Nat.le_of_ble_eq_true rfl) (r_writes (d - 1) (by omega) n ok m1 hU 13 (by omega) (by omega)) (Nat.le_refl _) (Or.inl rfl) (fun r ok1 mB hq => ?_)
                obtain ⟨rfl, rfl, emB⟩ := hq
                have hMw := hM.w 13
                rw [emB] at hMw
                have hT0 : tGo mem c t (s + 1) (aAt mem c) = ((faGo mem c (s : Int) (1) 7 v).1, ev ++ [(true, 13)] ++ (faGo mem c (s : Int) (1) 7 v).2) := by
                  rw [tGo_succ, e0]; unfold tSt; rw [hby, if_neg (by omega), if_neg (by simp only [aKind]; omega)]; simp only [List.append_assoc, List.cons_append, List.nil_append]
                have lp130 : ∀ (kz2 : Nat) (f : Nat) (v2 : Int → Int) (ev2 : pEv) (z2 : Int) (m2 : pM), (f : Int) < (kz2 : Int) → (tGo mem c t (s + 1) (aAt mem c) = ((faGo mem c (s : Int) (1) f v2).1, ev2 ++ (faGo mem c (s : Int) (1) f v2).2)) → (vMem mem m2 c v2 ev2 z2) → (pOkv mem c v2) → (ev2.length + 120 * f ≤ 900 * (s + 1)) → (mem 91 (16 * c + (s : Int)) - v2 (s : Int) ≤ f) → PW mi_X10_tilts d n n (fun r ok' mem' => ∃ z : Int, r = none ∧ ok = ok' ∧ vMem mem mem' c (tGo mem c t 16 (aAt mem c)).1 (tGo mem c t 16 (aAt mem c)).2 z) 130 [(0, vr 88), (1, vi c), (2, vi t), (3, vi (s : Int)), (4, vi (16 * c + (s : Int))), (5, vi (1))] [] n ok m2 := by
                  intro kz2
                  induction kz2 with
                  | zero =>
                    intro f v2 ev2 z2 m2 hk2 hT hM2 hv2 hl2 hfu
                    exact absurd hk2 (by omega)
                  | succ kz2 ih2 =>
                    intro f v2 ev2 z2 m2 hk2 hT hM2 hv2 hl2 hfu
                    have hx2 : m2 92 (16 * c + (s : Int)) = v2 (s : Int) := hM2.2.1 (s : Int) (by omega) (by omega)
                    have q91b := hM2.s.span
                    have hvs : 0 ≤ v2 (s : Int) ∧ v2 (s : Int) < mem 91 (16 * c + (s : Int)) := hv2 (s : Int) (by omega) (by omega) hkn
                    obtain ⟨f, rfl⟩ : ∃ f1, f = f1 + 1 := ⟨f - 1, by omega⟩
                    have hF := faGo_succ mem c (s : Int) (1) f v2
                    have htr2 := hM2.tr ht.1
                    refine pw_aload_n 0 rfl dX10_tilts_130 rfl ?_
                    refine pw_gR 7 92 dX10_tilts_131 cOk10 (by assumption) (by decide) kw_1072 (by decide) rfl ?_
                    refine pw_iload dX10_tilts_134 rfl ?_
                    refine pw_iaload dX10_tilts_136 (by assumption) (by omega) (by omega) (fun r136 => ?_)
                    try simp (disch := omega) only [wr_s, wr_a, wr_k] at r136 ⊢
                    rw [hx2] at r136 ⊢
                    refine pw_iload dX10_tilts_137 rfl ?_
                    refine pw_iadd dX10_tilts_139 ?_
                    refine pw_i2l dX10_tilts_140 (by omega) ?_
                    refine pw_lconst (x := 0) dX10_tilts_141 (by decide) ?_
                    refine pw_aload_n 0 rfl dX10_tilts_142 rfl ?_
                    refine pw_gR 6 91 dX10_tilts_143 cOk10 (by assumption) (by decide) kw_1071 (by decide) rfl ?_
                    refine pw_iload dX10_tilts_146 rfl ?_
                    refine pw_iaload dX10_tilts_148 (by assumption) (by omega) (by omega) (fun r148 => ?_)
                    try simp (disch := omega) only [wr_s, wr_a, wr_k] at r148 ⊢
                    rw [q91b] at r148 ⊢
                    refine pw_iconst dX10_tilts_149 ?_
                    refine pw_isub dX10_tilts_150 ?_
                    refine pw_i2l dX10_tilts_151 (by omega) ?_
                    refine pw_callS (d' := d - 1) (As := [_, _, _]) dX10_tilts_152 ok_X10_in kw_1245 (by omega) rfl (Nat.le_of_ble_eq_true rfl) (r_in (d - 1) (by omega) n ok m2 (v2 (s : Int) + (1)) 0 (mem 91 (16 * c + (s : Int)) - 1) (by omega) (by omega) (by omega)) (Nat.le_refl _) (Or.inl rfl) (fun r ok1 mem1 hq => ?_)
                    obtain ⟨rfl, rfl, rfl⟩ := hq
                    refine pw_if_eq 183 (by decide) dX10_tilts_155 (by split <;> omega) (fun c155 => ?_) (fun c155 => ?_)
                    · skip
                      have hg : ¬ (0 ≤ v2 (s : Int) + (1) ∧ v2 (s : Int) + (1) ≤ mem 91 (16 * c + (s : Int)) - 1) := by revert c155; split <;> intro h <;> first | assumption | (exfalso; omega)
                      rw [if_neg hg] at hF
                      have hTn : tGo mem c t (s + 1) (aAt mem c) = (v2, ev2) := by rw [hT, hF, List.append_nil]
                      have hMn := hM2
                      have hvn := hv2
                      have hln : ev2.length ≤ 900 * (s + 1) := by omega
                      refine pw_iinc dX10_tilts_183 rfl (by decide) ?_
                      refine pw_goto 2 (by decide) dX10_tilts_186 ?_
                      exact pw_locs _ rfl (ih (s + 1) _ _ _ _ (by omega) (by omega) hTn hMn hvn hln)
                    · skip
                      have hg : (0 ≤ v2 (s : Int) + (1) ∧ v2 (s : Int) + (1) ≤ mem 91 (16 * c + (s : Int)) - 1) := by revert c155; split <;> intro h <;> first | assumption | (exfalso; omega)
                      rw [if_pos hg] at hF
                      refine pw_aload_n 0 rfl dX10_tilts_158 rfl ?_
                      refine pw_iload_n 1 rfl dX10_tilts_159 rfl ?_
                      refine pw_iload_n 3 rfl dX10_tilts_160 rfl ?_
                      refine pw_callV (d' := d - 1) (As := [_, _]) (ci := 10) dX10_tilts_161 ok_X10_failing kw_1374 rfl rfl (Of.o (by assumption)) (by omega) rfl (Nat.le_of_ble_eq_true rfl) (r_failing (d - 1) (by omega) n ok m2 hU c (s : Int) hc (by omega) (sOk_s hM2.s hs) (pOkv_v hM2.at (pOkv_s hM2.s hv2)) (by omega)) (Nat.le_refl _) (Or.inl rfl) (fun r ok1 m3 hq => ?_)
                      obtain ⟨z3, rfl, rfl, em3⟩ := hq
                      rw [fRes_v (sOk_s hM2.s hs) hM2.at, fRes_s hM2.s] at em3 ⊢
                      have hM3 := hM2.e (fRes mem c v2 (s : Int)).2 z3
                      rw [em3] at hM3
                      have hfr := fRes_ran (m := mem) (c := c) v2 (s : Int) hs.1
                      have hnc : 0 ≤ mem 94 c ∧ mem 94 c ≤ 40 := hs.1
                      have hfr : -1 ≤ (fRes mem c v2 (s : Int)).1 ∧ (fRes mem c v2 (s : Int)).1 < mem 94 c ∨ (fRes mem c v2 (s : Int)).1 = -1 := hfr
                      have hfl := fRes_len (m := mem) (c := c) v2 (s : Int) hs.1
                      have hx3 : m3 92 (16 * c + (s : Int)) = v2 (s : Int) := hM3.2.1 (s : Int) (by omega) (by omega)
                      refine pw_iconst dX10_tilts_164 ?_
                      refine pw_icmp_ne 183 (by decide) dX10_tilts_165 (by omega) (by omega) (fun c165 => ?_) (fun c165 => ?_)
                      · skip
                        rw [if_neg c165] at hF
                        have hTn : tGo mem c t (s + 1) (aAt mem c) = (v2, ev2 ++ (fRes mem c v2 (s : Int)).2) := by rw [hT, hF]
                        have hMn := hM3
                        have hvn := hv2
                        have hln : (ev2 ++ (fRes mem c v2 (s : Int)).2).length ≤ 900 * (s + 1) := by rw [List.length_append]; omega
                        refine pw_iinc dX10_tilts_183 rfl (by decide) ?_
                        refine pw_goto 2 (by decide) dX10_tilts_186 ?_
                        exact pw_locs _ rfl (ih (s + 1) _ _ _ _ (by omega) (by omega) hTn hMn hvn hln)
                      · skip
                        rw [if_pos c165] at hF
                        refine pw_aload_n 0 rfl dX10_tilts_168 rfl ?_
                        refine pw_gR 7 92 dX10_tilts_169 cOk10 (by assumption) (by decide) kw_1072 (by decide) rfl ?_
                        refine pw_iload dX10_tilts_172 rfl ?_
                        refine pw_dup2 dX10_tilts_174 rfl rfl ?_
                        refine pw_iaload dX10_tilts_175 (by assumption) (by omega) (by omega) (fun r175 => ?_)
                        try simp (disch := omega) only [wr_s, wr_a, wr_k] at r175 ⊢
                        rw [hx3] at r175 ⊢
                        refine pw_iload dX10_tilts_176 rfl ?_
                        refine pw_iadd dX10_tilts_178 ?_
                        refine pw_iastore dX10_tilts_179 (by assumption) (by omega) (by omega) (by omega) ?_
                        refine pw_goto 130 (by decide) dX10_tilts_180 ?_
                        exact pw_locs _ rfl (ih2 f (vUp v2 (s : Int) (v2 (s : Int) + (1))) (ev2 ++ (fRes mem c v2 (s : Int)).2) z3 _ (by omega) (by rw [hT, hF, List.append_assoc]) (hM3.put (v2 (s : Int) + (1)) (by omega) (by omega)) (pOkv_up hv2 (by show 0 ≤ _ ∧ _ < mem 91 _; omega)) (by rw [List.length_append]; omega) (by unfold vUp; rw [if_pos rfl]; omega))
                exact pw_locs _ rfl (lp130 8 7 v (ev ++ [(true, 13)]) z _ (by omega) hT0 hMw hvv (by simp only [List.length_append, List.length_cons, List.length_nil]; omega) (by omega))
              · skip
                exfalso; omega
            · skip
              exfalso; omega
        · skip
          refine pw_aload_n 0 rfl dX10_tilts_27 rfl ?_
          refine pw_gR 5 90 dX10_tilts_28 cOk10 (by assumption) (by decide) kw_1070 (by decide) rfl ?_
          refine pw_iload dX10_tilts_31 rfl ?_
          refine pw_iaload dX10_tilts_33 (by assumption) (by omega) (by omega) (fun r33 => ?_)
          try simp (disch := omega) only [wr_s, wr_a, wr_k] at r33 ⊢
          rw [q90] at r33 ⊢
          refine pw_iconst dX10_tilts_34 ?_
          refine pw_icmp_eq 42 (by decide) dX10_tilts_35 (by omega) (by omega) (fun c35 => ?_) (fun c35 => ?_)
          · skip
            refine pw_aload_n 0 rfl dX10_tilts_42 rfl ?_
            refine pw_gR 8 93 dX10_tilts_43 cOk10 (by assumption) (by decide) kw_1073 (by decide) rfl ?_
            refine pw_iload dX10_tilts_46 rfl ?_
            refine pw_iaload dX10_tilts_48 (by assumption) (by omega) (by omega) (fun r48 => ?_)
            try simp (disch := omega) only [wr_s, wr_a, wr_k] at r48 ⊢
            rw [q93] at r48 ⊢
            refine pw_iload_n 2 rfl dX10_tilts_49 rfl ?_
            refine pw_icmp_ne 57 (by decide) dX10_tilts_50 (by omega) (by omega) (fun c50 => ?_) (fun c50 => ?_)
            · skip
              refine pw_aload_n 0 rfl dX10_tilts_57 rfl ?_
              refine pw_gR 8 93 dX10_tilts_58 cOk10 (by assumption) (by decide) kw_1073 (by decide) rfl ?_
              refine pw_iload dX10_tilts_61 rfl ?_
              refine pw_iaload dX10_tilts_63 (by assumption) (by omega) (by omega) (fun r63 => ?_)
              try simp (disch := omega) only [wr_s, wr_a, wr_k] at r63 ⊢
              rw [q93] at r63 ⊢
              refine pw_iload_n 2 rfl dX10_tilts_64 rfl ?_
              refine pw_iconst dX10_tilts_65 ?_
              refine pw_ixor dX10_tilts_66 ?_
              refine pw_icmp_ne 74 (by decide) dX10_tilts_67 (by omega) (by omega) (fun c67 => ?_) (fun c67 => ?_)
              · skip
                refine pw_iconst dX10_tilts_74 ?_
                refine pw_istore dX10_tilts_75 (by decide) ?_
                have hby : tBy mem c t (s : Int) = 0 := by unfold tBy; simp only [aKind, aSide]; (repeat' split) <;> omega
                refine pw_iload dX10_tilts_77 rfl ?_
                refine pw_if_ne 85 (by decide) dX10_tilts_79 (by omega) (fun c79 => ?_) (fun c79 => ?_)
                · skip
                  exfalso; omega
                · skip
                  have hTn : tGo mem c t (s + 1) (aAt mem c) = (v, ev) := by rw [tGo_succ, e0]; unfold tSt; rw [if_pos hby, List.append_nil]
                  have hMn := hM
                  have hvn := hvv
                  have hln : ev.length ≤ 900 * (s + 1) := by omega
                  refine pw_goto 183 (by decide) dX10_tilts_82 ?_
                  refine pw_iinc dX10_tilts_183 rfl (by decide) ?_
                  refine pw_goto 2 (by decide) dX10_tilts_186 ?_
                  exact pw_locs _ rfl (ih (s + 1) _ _ _ _ (by omega) (by omega) hTn hMn hvn hln)
              · skip
                refine pw_iconst dX10_tilts_70 ?_
                refine pw_goto 75 (by decide) dX10_tilts_71 ?_
                refine pw_istore dX10_tilts_75 (by decide) ?_
                have hby : tBy mem c t (s : Int) = -1 := by unfold tBy; simp only [aKind, aSide]; (repeat' split) <;> omega
                refine pw_iload dX10_tilts_77 rfl ?_
                refine pw_if_ne 85 (by decide) dX10_tilts_79 (by omega) (fun c79 => ?_) (fun c79 => ?_)
                · skip
                  have hkn : aKind mem c (s : Int) ≠ -1 := by show mem 90 _ ≠ -1; omega
                  have hpp : 1 ≤ mem 91 (16 * c + (s : Int)) ∧ mem 91 (16 * c + (s : Int)) ≤ 6 := hs.2.2 (s : Int) (by omega) (by omega) hkn
                  have hva : 0 ≤ v (s : Int) ∧ v (s : Int) < mem 91 (16 * c + (s : Int)) := hvv (s : Int) (by omega) (by omega) hkn
                  refine pw_aload_n 0 rfl dX10_tilts_85 rfl ?_
                  refine pw_gR 5 90 dX10_tilts_86 cOk10 (by assumption) (by decide) kw_1070 (by decide) rfl ?_
                  refine pw_iload dX10_tilts_89 rfl ?_
                  refine pw_iaload dX10_tilts_91 (by assumption) (by omega) (by omega) (fun r91 => ?_)
                  try simp (disch := omega) only [wr_s, wr_a, wr_k] at r91 ⊢
                  rw [q90] at r91 ⊢
                  refine pw_iconst dX10_tilts_92 ?_
                  refine pw_icmp_ne 124 (by decide) dX10_tilts_93 (by omega) (by omega) (fun c93 => ?_) (fun c93 => ?_)
                  · skip
                    exfalso; omega
                  · skip
                    refine pw_aload_n 0 rfl dX10_tilts_96 rfl ?_
                    refine pw_bipush dX10_tilts_97 (by decide) ?_
                    refine pw_callV (d' := d - 1) (As := [_]) (ci := 10) dX10_tilts_99 ok_X10_writes kw_1386 rfl rfl (Of.o (by assumption)) (by omega) rfl (Nat.le_of_ble_eq_true rfl) (r_writes (d - 1) (by omega) n ok m1 hU 15 (by omega) (by omega)) (Nat.le_refl _) (Or.inl rfl) (fun r ok1 mA hq => ?_)
                    obtain ⟨rfl, rfl, emA⟩ := hq
                    have hMA := hM.w 15
                    rw [emA] at hMA
                    have q91a := hMA.s.span
                    have q92a : mA 92 (16 * c + (s : Int)) = v (s : Int) := hMA.2.1 (s : Int) (by omega) (by omega)
                    have htrA := hMA.tr ht.1
                    rw [List.length_append] at htrA
                    have hlA : ([(true, 15)] : pEv).length = 1 := rfl
                    refine pw_aload_n 0 rfl dX10_tilts_102 rfl ?_
                    refine pw_gR 7 92 dX10_tilts_103 cOk10 (by assumption) (by decide) kw_1072 (by decide) rfl ?_
                    refine pw_iload dX10_tilts_106 rfl ?_
                    refine pw_iaload dX10_tilts_108 (by assumption) (by omega) (by omega) (fun r108 => ?_)
                    try simp (disch := omega) only [wr_s, wr_a, wr_k] at r108 ⊢
                    rw [q92a] at r108 ⊢
                    refine pw_aload_n 0 rfl dX10_tilts_109 rfl ?_
                    refine pw_gR 6 91 dX10_tilts_110 cOk10 (by assumption) (by decide) kw_1071 (by decide) rfl ?_
                    refine pw_iload dX10_tilts_113 rfl ?_
                    refine pw_iaload dX10_tilts_115 (by assumption) (by omega) (by omega) (fun r115 => ?_)
                    try simp (disch := omega) only [wr_s, wr_a, wr_k] at r115 ⊢
                    rw [q91a] at r115 ⊢
                    refine pw_iconst dX10_tilts_116 ?_
                    refine pw_isub dX10_tilts_117 ?_
                    refine pw_icmp_ne 124 (by decide) dX10_tilts_118 (by omega) (by omega) (fun c118 => ?_) (fun c118 => ?_)
                    · skip
                      have hne : ¬ v (s : Int) = aSpan mem c (s : Int) - 1 := c118
                      refine pw_aload_n 0 rfl dX10_tilts_124 rfl ?_
                      refine pw_bipush dX10_tilts_125 (by decide) ?_
                      refine pw_callV (d' := d - 1) (As := [_]) (ci := 10) dX10_tilts_127 ok_X10_writes kw_1386 rfl rfl (Of.o (by assumption)) (by omega) rfl (Nat.le_of_ble_eq_true rfl) (r_writes (d - 1) (by omega) n ok mA hU 13 (by omega) (by omega)) (Nat.le_refl _) (Or.inl rfl) (fun r ok1 mB hq => ?_)
                      obtain ⟨rfl, rfl, emB⟩ := hq
                      have hMw := hMA.w 13
                      rw [emB] at hMw
                      have hT0 : tGo mem c t (s + 1) (aAt mem c) = ((faGo mem c (s : Int) (-1) 7 v).1, ev ++ [(true, 15)] ++ [(true, 13)] ++ (faGo mem c (s : Int) (-1) 7 v).2) := by
                        rw [tGo_succ, e0]; unfold tSt; rw [hby, if_neg (by omega), if_pos (by simp only [aKind]; omega), if_neg hne]; simp only [List.append_assoc, List.cons_append, List.nil_append]
                      have lp130 : ∀ (kz2 : Nat) (f : Nat) (v2 : Int → Int) (ev2 : pEv) (z2 : Int) (m2 : pM), (f : Int) < (kz2 : Int) → (tGo mem c t (s + 1) (aAt mem c) = ((faGo mem c (s : Int) (-1) f v2).1, ev2 ++ (faGo mem c (s : Int) (-1) f v2).2)) → (vMem mem m2 c v2 ev2 z2) → (pOkv mem c v2) → (ev2.length + 120 * f ≤ 900 * (s + 1)) → (v2 (s : Int) + 1 ≤ f) → PW mi_X10_tilts d n n (fun r ok' mem' => ∃ z : Int, r = none ∧ ok = ok' ∧ vMem mem mem' c (tGo mem c t 16 (aAt mem c)).1 (tGo mem c t 16 (aAt mem c)).2 z) 130 [(0, vr 88), (1, vi c), (2, vi t), (3, vi (s : Int)), (4, vi (16 * c + (s : Int))), (5, vi (-1))] [] n ok m2 := by
                        intro kz2
                        induction kz2 with
                        | zero =>
                          intro f v2 ev2 z2 m2 hk2 hT hM2 hv2 hl2 hfu
                          exact absurd hk2 (by omega)
                        | succ kz2 ih2 =>
                          intro f v2 ev2 z2 m2 hk2 hT hM2 hv2 hl2 hfu
                          have hx2 : m2 92 (16 * c + (s : Int)) = v2 (s : Int) := hM2.2.1 (s : Int) (by omega) (by omega)
                          have q91b := hM2.s.span
                          have hvs : 0 ≤ v2 (s : Int) ∧ v2 (s : Int) < mem 91 (16 * c + (s : Int)) := hv2 (s : Int) (by omega) (by omega) hkn
                          obtain ⟨f, rfl⟩ : ∃ f1, f = f1 + 1 := ⟨f - 1, by omega⟩
                          have hF := faGo_succ mem c (s : Int) (-1) f v2
                          have htr2 := hM2.tr ht.1
                          refine pw_aload_n 0 rfl dX10_tilts_130 rfl ?_
                          refine pw_gR 7 92 dX10_tilts_131 cOk10 (by assumption) (by decide) kw_1072 (by decide) rfl ?_
                          refine pw_iload dX10_tilts_134 rfl ?_
                          refine pw_iaload dX10_tilts_136 (by assumption) (by omega) (by omega) (fun r136 => ?_)
                          try simp (disch := omega) only [wr_s, wr_a, wr_k] at r136 ⊢
                          rw [hx2] at r136 ⊢
                          refine pw_iload dX10_tilts_137 rfl ?_
                          refine pw_iadd dX10_tilts_139 ?_
                          refine pw_i2l dX10_tilts_140 (by omega) ?_
                          refine pw_lconst (x := 0) dX10_tilts_141 (by decide) ?_
                          refine pw_aload_n 0 rfl dX10_tilts_142 rfl ?_
                          refine pw_gR 6 91 dX10_tilts_143 cOk10 (by assumption) (by decide) kw_1071 (by decide) rfl ?_
                          refine pw_iload dX10_tilts_146 rfl ?_
                          refine pw_iaload dX10_tilts_148 (by assumption) (by omega) (by omega) (fun r148 => ?_)
                          try simp (disch := omega) only [wr_s, wr_a, wr_k] at r148 ⊢
                          rw [q91b] at r148 ⊢
                          refine pw_iconst dX10_tilts_149 ?_
                          refine pw_isub dX10_tilts_150 ?_
                          refine pw_i2l dX10_tilts_151 (by omega) ?_
                          refine pw_callS (d' := d - 1) (As := [_, _, _]) dX10_tilts_152 ok_X10_in kw_1245 (by omega) rfl (Nat.le_of_ble_eq_true rfl) (r_in (d - 1) (by omega) n ok m2 (v2 (s : Int) + (-1)) 0 (mem 91 (16 * c + (s : Int)) - 1) (by omega) (by omega) (by omega)) (Nat.le_refl _) (Or.inl rfl) (fun r ok1 mem1 hq => ?_)
                          obtain ⟨rfl, rfl, rfl⟩ := hq
                          refine pw_if_eq 183 (by decide) dX10_tilts_155 (by split <;> omega) (fun c155 => ?_) (fun c155 => ?_)
                          · skip
                            have hg : ¬ (0 ≤ v2 (s : Int) + (-1) ∧ v2 (s : Int) + (-1) ≤ mem 91 (16 * c + (s : Int)) - 1) := by revert c155; split <;> intro h <;> first | assumption | (exfalso; omega)
                            rw [if_neg hg] at hF
                            have hTn : tGo mem c t (s + 1) (aAt mem c) = (v2, ev2) := by rw [hT, hF, List.append_nil]
                            have hMn := hM2
                            have hvn := hv2
                            have hln : ev2.length ≤ 900 * (s + 1) := by omega
                            refine pw_iinc dX10_tilts_183 rfl (by decide) ?_
                            refine pw_goto 2 (by decide) dX10_tilts_186 ?_
                            exact pw_locs _ rfl (ih (s + 1) _ _ _ _ (by omega) (by omega) hTn hMn hvn hln)
                          · skip
                            have hg : (0 ≤ v2 (s : Int) + (-1) ∧ v2 (s : Int) + (-1) ≤ mem 91 (16 * c + (s : Int)) - 1) := by revert c155; split <;> intro h <;> first | assumption | (exfalso; omega)
                            rw [if_pos hg] at hF
                            refine pw_aload_n 0 rfl dX10_tilts_158 rfl ?_
                            refine pw_iload_n 1 rfl dX10_tilts_159 rfl ?_
                            refine pw_iload_n 3 rfl dX10_tilts_160 rfl ?_
                            refine pw_callV (d' := d - 1) (As := [_, _]) (ci := 10) dX10_tilts_161 ok_X10_failing kw_1374 rfl rfl (Of.o (by assumption)) (by omega) rfl (Nat.le_of_ble_eq_true rfl) (r_failing (d - 1) (by omega) n ok m2 hU c (s : Int) hc (by omega) (sOk_s hM2.s hs) (pOkv_v hM2.at (pOkv_s hM2.s hv2)) (by omega)) (Nat.le_refl _) (Or.inl rfl) (fun r ok1 m3 hq => ?_)
                            obtain ⟨z3, rfl, rfl, em3⟩ := hq
                            rw [fRes_v (sOk_s hM2.s hs) hM2.at, fRes_s hM2.s] at em3 ⊢
                            have hM3 := hM2.e (fRes mem c v2 (s : Int)).2 z3
                            rw [em3] at hM3
                            have hfr := fRes_ran (m := mem) (c := c) v2 (s : Int) hs.1
                            have hnc : 0 ≤ mem 94 c ∧ mem 94 c ≤ 40 := hs.1
                            have hfr : -1 ≤ (fRes mem c v2 (s : Int)).1 ∧ (fRes mem c v2 (s : Int)).1 < mem 94 c ∨ (fRes mem c v2 (s : Int)).1 = -1 := hfr
                            have hfl := fRes_len (m := mem) (c := c) v2 (s : Int) hs.1
                            have hx3 : m3 92 (16 * c + (s : Int)) = v2 (s : Int) := hM3.2.1 (s : Int) (by omega) (by omega)
                            refine pw_iconst dX10_tilts_164 ?_
                            refine pw_icmp_ne 183 (by decide) dX10_tilts_165 (by omega) (by omega) (fun c165 => ?_) (fun c165 => ?_)
                            · skip
                              rw [if_neg c165] at hF
                              have hTn : tGo mem c t (s + 1) (aAt mem c) = (v2, ev2 ++ (fRes mem c v2 (s : Int)).2) := by rw [hT, hF]
                              have hMn := hM3
                              have hvn := hv2
                              have hln : (ev2 ++ (fRes mem c v2 (s : Int)).2).length ≤ 900 * (s + 1) := by rw [List.length_append]; omega
                              refine pw_iinc dX10_tilts_183 rfl (by decide) ?_
                              refine pw_goto 2 (by decide) dX10_tilts_186 ?_
                              exact pw_locs _ rfl (ih (s + 1) _ _ _ _ (by omega) (by omega) hTn hMn hvn hln)
                            · skip
                              rw [if_pos c165] at hF
                              refine pw_aload_n 0 rfl dX10_tilts_168 rfl ?_
                              refine pw_gR 7 92 dX10_tilts_169 cOk10 (by assumption) (by decide) kw_1072 (by decide) rfl ?_
                              refine pw_iload dX10_tilts_172 rfl ?_
                              refine pw_dup2 dX10_tilts_174 rfl rfl ?_
                              refine pw_iaload dX10_tilts_175 (by assumption) (by omega) (by omega) (fun r175 => ?_)
                              try simp (disch := omega) only [wr_s, wr_a, wr_k] at r175 ⊢
                              rw [hx3] at r175 ⊢
                              refine pw_iload dX10_tilts_176 rfl ?_
                              refine pw_iadd dX10_tilts_178 ?_
                              refine pw_iastore dX10_tilts_179 (by assumption) (by omega) (by omega) (by omega) ?_
                              refine pw_goto 130 (by decide) dX10_tilts_180 ?_
                              exact pw_locs _ rfl (ih2 f (vUp v2 (s : Int) (v2 (s : Int) + (-1))) (ev2 ++ (fRes mem c v2 (s : Int)).2) z3 _ (by omega) (by rw [hT, hF, List.append_assoc]) (hM3.put (v2 (s : Int) + (-1)) (by omega) (by omega)) (pOkv_up hv2 (by show 0 ≤ _ ∧ _ < mem 91 _; omega)) (by rw [List.length_append]; omega) (by unfold vUp; rw [if_pos rfl]; omega))
                      exact pw_locs _ rfl (lp130 8 7 v (ev ++ [(true, 15)] ++ [(true, 13)]) z _ (by omega) hT0 hMw hvv (by simp only [List.length_append, List.length_cons, List.length_nil]; omega) (by omega))
                    · skip
                      have hTn : tGo mem c t (s + 1) (aAt mem c) = (v, ev ++ [(true, 15)]) := by rw [tGo_succ, e0]; unfold tSt; rw [if_neg (by omega), if_pos (by simp only [aKind]; omega), if_pos c118]
                      have hMn := hMA
                      have hvn := hvv
                      have hln : (ev ++ [(true, 15)] : pEv).length ≤ 900 * (s + 1) := by rw [List.length_append]; omega
                      refine pw_goto 183 (by decide) dX10_tilts_121 ?_
                      refine pw_iinc dX10_tilts_183 rfl (by decide) ?_
                      refine pw_goto 2 (by decide) dX10_tilts_186 ?_
                      exact pw_locs _ rfl (ih (s + 1) _ _ _ _ (by omega) (by omega) hTn hMn hvn hln)
                · skip
                  exfalso; omega
            · skip
              refine pw_iconst dX10_tilts_53 ?_
              refine pw_goto 75 (by decide) dX10_tilts_54 ?_
              refine pw_istore dX10_tilts_75 (by decide) ?_
              have hby : tBy mem c t (s : Int) = 1 := by unfold tBy; simp only [aKind, aSide]; (repeat' split) <;> omega
              refine pw_iload dX10_tilts_77 rfl ?_
              refine pw_if_ne 85 (by decide) dX10_tilts_79 (by omega) (fun c79 => ?_) (fun c79 => ?_)
              · skip
                have hkn : aKind mem c (s : Int) ≠ -1 := by show mem 90 _ ≠ -1; omega
                have hpp : 1 ≤ mem 91 (16 * c + (s : Int)) ∧ mem 91 (16 * c + (s : Int)) ≤ 6 := hs.2.2 (s : Int) (by omega) (by omega) hkn
                have hva : 0 ≤ v (s : Int) ∧ v (s : Int) < mem 91 (16 * c + (s : Int)) := hvv (s : Int) (by omega) (by omega) hkn
                refine pw_aload_n 0 rfl dX10_tilts_85 rfl ?_
                refine pw_gR 5 90 dX10_tilts_86 cOk10 (by assumption) (by decide) kw_1070 (by decide) rfl ?_
                refine pw_iload dX10_tilts_89 rfl ?_
                refine pw_iaload dX10_tilts_91 (by assumption) (by omega) (by omega) (fun r91 => ?_)
                try simp (disch := omega) only [wr_s, wr_a, wr_k] at r91 ⊢
                rw [q90] at r91 ⊢
                refine pw_iconst dX10_tilts_92 ?_
                refine pw_icmp_ne 124 (by decide) dX10_tilts_93 (by omega) (by omega) (fun c93 => ?_) (fun c93 => ?_)
                · skip
                  exfalso; omega
                · skip
                  refine pw_aload_n 0 rfl dX10_tilts_96 rfl ?_
                  refine pw_bipush dX10_tilts_97 (by decide) ?_
                  refine pw_callV (d' := d - 1) (As := [_]) (ci := 10) dX10_tilts_99 ok_X10_writes kw_1386 rfl rfl (Of.o (by assumption)) (by omega) rfl (Nat.le_of_ble_eq_true rfl) (r_writes (d - 1) (by omega) n ok m1 hU 15 (by omega) (by omega)) (Nat.le_refl _) (Or.inl rfl) (fun r ok1 mA hq => ?_)
                  obtain ⟨rfl, rfl, emA⟩ := hq
                  have hMA := hM.w 15
                  rw [emA] at hMA
                  have q91a := hMA.s.span
                  have q92a : mA 92 (16 * c + (s : Int)) = v (s : Int) := hMA.2.1 (s : Int) (by omega) (by omega)
                  have htrA := hMA.tr ht.1
                  rw [List.length_append] at htrA
                  have hlA : ([(true, 15)] : pEv).length = 1 := rfl
                  refine pw_aload_n 0 rfl dX10_tilts_102 rfl ?_
                  refine pw_gR 7 92 dX10_tilts_103 cOk10 (by assumption) (by decide) kw_1072 (by decide) rfl ?_
                  refine pw_iload dX10_tilts_106 rfl ?_
                  refine pw_iaload dX10_tilts_108 (by assumption) (by omega) (by omega) (fun r108 => ?_)
                  try simp (disch := omega) only [wr_s, wr_a, wr_k] at r108 ⊢
                  rw [q92a] at r108 ⊢
                  refine pw_aload_n 0 rfl dX10_tilts_109 rfl ?_
                  refine pw_gR 6 91 dX10_tilts_110 cOk10 (by assumption) (by decide) kw_1071 (by decide) rfl ?_
                  refine pw_iload dX10_tilts_113 rfl ?_
                  refine pw_iaload dX10_tilts_115 (by assumption) (by omega) (by omega) (fun r115 => ?_)
                  try simp (disch := omega) only [wr_s, wr_a, wr_k] at r115 ⊢
                  rw [q91a] at r115 ⊢
                  refine pw_iconst dX10_tilts_116 ?_
                  refine pw_isub dX10_tilts_117 ?_
                  refine pw_icmp_ne 124 (by decide) dX10_tilts_118 (by omega) (by omega) (fun c118 => ?_) (fun c118 => ?_)
                  · skip
                    have hne : ¬ v (s : Int) = aSpan mem c (s : Int) - 1 := c118
                    refine pw_aload_n 0 rfl dX10_tilts_124 rfl ?_
                    refine pw_bipush dX10_tilts_125 (by decide) ?_
                    refine pw_callV (d' := d - 1) (As := [_]) (ci := 10) dX10_tilts_127 ok_X10_writes kw_1386 rfl rfl (Of.o (by assumption)) (by omega) rfl (Nat.le_of_ble_eq_true rfl) (r_writes (d - 1) (by omega) n ok mA hU 13 (by omega) (by omega)) (Nat.le_refl _) (Or.inl rfl) (fun r ok1 mB hq => ?_)
                    obtain ⟨rfl, rfl, emB⟩ := hq
                    have hMw := hMA.w 13
                    rw [emB] at hMw
                    have hT0 : tGo mem c t (s + 1) (aAt mem c) = ((faGo mem c (s : Int) (1) 7 v).1, ev ++ [(true, 15)] ++ [(true, 13)] ++ (faGo mem c (s : Int) (1) 7 v).2) := by
                      rw [tGo_succ, e0]; unfold tSt; rw [hby, if_neg (by omega), if_pos (by simp only [aKind]; omega), if_neg hne]; simp only [List.append_assoc, List.cons_append, List.nil_append]
                    have lp130 : ∀ (kz2 : Nat) (f : Nat) (v2 : Int → Int) (ev2 : pEv) (z2 : Int) (m2 : pM), (f : Int) < (kz2 : Int) → (tGo mem c t (s + 1) (aAt mem c) = ((faGo mem c (s : Int) (1) f v2).1, ev2 ++ (faGo mem c (s : Int) (1) f v2).2)) → (vMem mem m2 c v2 ev2 z2) → (pOkv mem c v2) → (ev2.length + 120 * f ≤ 900 * (s + 1)) → (mem 91 (16 * c + (s : Int)) - v2 (s : Int) ≤ f) → PW mi_X10_tilts d n n (fun r ok' mem' => ∃ z : Int, r = none ∧ ok = ok' ∧ vMem mem mem' c (tGo mem c t 16 (aAt mem c)).1 (tGo mem c t 16 (aAt mem c)).2 z) 130 [(0, vr 88), (1, vi c), (2, vi t), (3, vi (s : Int)), (4, vi (16 * c + (s : Int))), (5, vi (1))] [] n ok m2 := by
                      intro kz2
                      induction kz2 with
                      | zero =>
                        intro f v2 ev2 z2 m2 hk2 hT hM2 hv2 hl2 hfu
                        exact absurd hk2 (by omega)
                      | succ kz2 ih2 =>
                        intro f v2 ev2 z2 m2 hk2 hT hM2 hv2 hl2 hfu
                        have hx2 : m2 92 (16 * c + (s : Int)) = v2 (s : Int) := hM2.2.1 (s : Int) (by omega) (by omega)
                        have q91b := hM2.s.span
                        have hvs : 0 ≤ v2 (s : Int) ∧ v2 (s : Int) < mem 91 (16 * c + (s : Int)) := hv2 (s : Int) (by omega) (by omega) hkn
                        obtain ⟨f, rfl⟩ : ∃ f1, f = f1 + 1 := ⟨f - 1, by omega⟩
                        have hF := faGo_succ mem c (s : Int) (1) f v2
                        have htr2 := hM2.tr ht.1
                        refine pw_aload_n 0 rfl dX10_tilts_130 rfl ?_
                        refine pw_gR 7 92 dX10_tilts_131 cOk10 (by assumption) (by decide) kw_1072 (by decide) rfl ?_
                        refine pw_iload dX10_tilts_134 rfl ?_
                        refine pw_iaload dX10_tilts_136 (by assumption) (by omega) (by omega) (fun r136 => ?_)
                        try simp (disch := omega) only [wr_s, wr_a, wr_k] at r136 ⊢
                        rw [hx2] at r136 ⊢
                        refine pw_iload dX10_tilts_137 rfl ?_
                        refine pw_iadd dX10_tilts_139 ?_
                        refine pw_i2l dX10_tilts_140 (by omega) ?_
                        refine pw_lconst (x := 0) dX10_tilts_141 (by decide) ?_
                        refine pw_aload_n 0 rfl dX10_tilts_142 rfl ?_
                        refine pw_gR 6 91 dX10_tilts_143 cOk10 (by assumption) (by decide) kw_1071 (by decide) rfl ?_
                        refine pw_iload dX10_tilts_146 rfl ?_
                        refine pw_iaload dX10_tilts_148 (by assumption) (by omega) (by omega) (fun r148 => ?_)
                        try simp (disch := omega) only [wr_s, wr_a, wr_k] at r148 ⊢
                        rw [q91b] at r148 ⊢
                        refine pw_iconst dX10_tilts_149 ?_
                        refine pw_isub dX10_tilts_150 ?_
                        refine pw_i2l dX10_tilts_151 (by omega) ?_
                        refine pw_callS (d' := d - 1) (As := [_, _, _]) dX10_tilts_152 ok_X10_in kw_1245 (by omega) rfl (Nat.le_of_ble_eq_true rfl) (r_in (d - 1) (by omega) n ok m2 (v2 (s : Int) + (1)) 0 (mem 91 (16 * c + (s : Int)) - 1) (by omega) (by omega) (by omega)) (Nat.le_refl _) (Or.inl rfl) (fun r ok1 mem1 hq => ?_)
                        obtain ⟨rfl, rfl, rfl⟩ := hq
                        refine pw_if_eq 183 (by decide) dX10_tilts_155 (by split <;> omega) (fun c155 => ?_) (fun c155 => ?_)
                        · skip
                          have hg : ¬ (0 ≤ v2 (s : Int) + (1) ∧ v2 (s : Int) + (1) ≤ mem 91 (16 * c + (s : Int)) - 1) := by revert c155; split <;> intro h <;> first | assumption | (exfalso; omega)
                          rw [if_neg hg] at hF
                          have hTn : tGo mem c t (s + 1) (aAt mem c) = (v2, ev2) := by rw [hT, hF, List.append_nil]
                          have hMn := hM2
                          have hvn := hv2
                          have hln : ev2.length ≤ 900 * (s + 1) := by omega
                          refine pw_iinc dX10_tilts_183 rfl (by decide) ?_
                          refine pw_goto 2 (by decide) dX10_tilts_186 ?_
                          exact pw_locs _ rfl (ih (s + 1) _ _ _ _ (by omega) (by omega) hTn hMn hvn hln)
                        · skip
                          have hg : (0 ≤ v2 (s : Int) + (1) ∧ v2 (s : Int) + (1) ≤ mem 91 (16 * c + (s : Int)) - 1) := by revert c155; split <;> intro h <;> first | assumption | (exfalso; omega)
                          rw [if_pos hg] at hF
                          refine pw_aload_n 0 rfl dX10_tilts_158 rfl ?_
                          refine pw_iload_n 1 rfl dX10_tilts_159 rfl ?_
                          refine pw_iload_n 3 rfl dX10_tilts_160 rfl ?_
                          refine pw_callV (d' := d - 1) (As := [_, _]) (ci := 10) dX10_tilts_161 ok_X10_failing kw_1374 rfl rfl (Of.o (by assumption)) (by omega) rfl (Nat.le_of_ble_eq_true rfl) (r_failing (d - 1) (by omega) n ok m2 hU c (s : Int) hc (by omega) (sOk_s hM2.s hs) (pOkv_v hM2.at (pOkv_s hM2.s hv2)) (by omega)) (Nat.le_refl _) (Or.inl rfl) (fun r ok1 m3 hq => ?_)
                          obtain ⟨z3, rfl, rfl, em3⟩ := hq
                          rw [fRes_v (sOk_s hM2.s hs) hM2.at, fRes_s hM2.s] at em3 ⊢
                          have hM3 := hM2.e (fRes mem c v2 (s : Int)).2 z3
                          rw [em3] at hM3
                          have hfr := fRes_ran (m := mem) (c := c) v2 (s : Int) hs.1
                          have hnc : 0 ≤ mem 94 c ∧ mem 94 c ≤ 40 := hs.1
                          have hfr : -1 ≤ (fRes mem c v2 (s : Int)).1 ∧ (fRes mem c v2 (s : Int)).1 < mem 94 c ∨ (fRes mem c v2 (s : Int)).1 = -1 := hfr
                          have hfl := fRes_len (m := mem) (c := c) v2 (s : Int) hs.1
                          have hx3 : m3 92 (16 * c + (s : Int)) = v2 (s : Int) := hM3.2.1 (s : Int) (by omega) (by omega)
                          refine pw_iconst dX10_tilts_164 ?_
                          refine pw_icmp_ne 183 (by decide) dX10_tilts_165 (by omega) (by omega) (fun c165 => ?_) (fun c165 => ?_)
                          · skip
                            rw [if_neg c165] at hF
                            have hTn : tGo mem c t (s + 1) (aAt mem c) = (v2, ev2 ++ (fRes mem c v2 (s : Int)).2) := by rw [hT, hF]
                            have hMn := hM3
                            have hvn := hv2
                            have hln : (ev2 ++ (fRes mem c v2 (s : Int)).2).length ≤ 900 * (s + 1) := by rw [List.length_append]; omega
                            refine pw_iinc dX10_tilts_183 rfl (by decide) ?_
                            refine pw_goto 2 (by decide) dX10_tilts_186 ?_
                            exact pw_locs _ rfl (ih (s + 1) _ _ _ _ (by omega) (by omega) hTn hMn hvn hln)
                          · skip
                            rw [if_pos c165] at hF
                            refine pw_aload_n 0 rfl dX10_tilts_168 rfl ?_
                            refine pw_gR 7 92 dX10_tilts_169 cOk10 (by assumption) (by decide) kw_1072 (by decide) rfl ?_
                            refine pw_iload dX10_tilts_172 rfl ?_
                            refine pw_dup2 dX10_tilts_174 rfl rfl ?_
                            refine pw_iaload dX10_tilts_175 (by assumption) (by omega) (by omega) (fun r175 => ?_)
                            try simp (disch := omega) only [wr_s, wr_a, wr_k] at r175 ⊢
                            rw [hx3] at r175 ⊢
                            refine pw_iload dX10_tilts_176 rfl ?_
                            refine pw_iadd dX10_tilts_178 ?_
                            refine pw_iastore dX10_tilts_179 (by assumption) (by omega) (by omega) (by omega) ?_
                            refine pw_goto 130 (by decide) dX10_tilts_180 ?_
                            exact pw_locs _ rfl (ih2 f (vUp v2 (s : Int) (v2 (s : Int) + (1))) (ev2 ++ (fRes mem c v2 (s : Int)).2) z3 _ (by omega) (by rw [hT, hF, List.append_assoc]) (hM3.put (v2 (s : Int) + (1)) (by omega) (by omega)) (pOkv_up hv2 (by show 0 ≤ _ ∧ _ < mem 91 _; omega)) (by rw [List.length_append]; omega) (by unfold vUp; rw [if_pos rfl]; omega))
                    exact pw_locs _ rfl (lp130 8 7 v (ev ++ [(true, 15)] ++ [(true, 13)]) z _ (by omega) hT0 hMw hvv (by simp only [List.length_append, List.length_cons, List.length_nil]; omega) (by omega))
                  · skip
                    have hTn : tGo mem c t (s + 1) (aAt mem c) = (v, ev ++ [(true, 15)]) := by rw [tGo_succ, e0]; unfold tSt; rw [if_neg (by omega), if_pos (by simp only [aKind]; omega), if_pos c118]
                    have hMn := hMA
                    have hvn := hvv
                    have hln : (ev ++ [(true, 15)] : pEv).length ≤ 900 * (s + 1) := by rw [List.length_append]; omega
                    refine pw_goto 183 (by decide) dX10_tilts_121 ?_
                    refine pw_iinc dX10_tilts_183 rfl (by decide) ?_
                    refine pw_goto 2 (by decide) dX10_tilts_186 ?_
                    exact pw_locs _ rfl (ih (s + 1) _ _ _ _ (by omega) (by omega) hTn hMn hvn hln)
              · skip
                exfalso; omega
          · skip
            refine pw_iconst dX10_tilts_38 ?_
            refine pw_goto 75 (by decide) dX10_tilts_39 ?_
            refine pw_istore dX10_tilts_75 (by decide) ?_
            have hby : tBy mem c t (s : Int) = 0 := by unfold tBy; simp only [aKind, aSide]; (repeat' split) <;> omega
            refine pw_iload dX10_tilts_77 rfl ?_
            refine pw_if_ne 85 (by decide) dX10_tilts_79 (by omega) (fun c79 => ?_) (fun c79 => ?_)
            · skip
              exfalso; omega
            · skip
              have hTn : tGo mem c t (s + 1) (aAt mem c) = (v, ev) := by rw [tGo_succ, e0]; unfold tSt; rw [if_pos hby, List.append_nil]
              have hMn := hM
              have hvn := hvv
              have hln : ev.length ≤ 900 * (s + 1) := by omega
              refine pw_goto 183 (by decide) dX10_tilts_82 ?_
              refine pw_iinc dX10_tilts_183 rfl (by decide) ?_
              refine pw_goto 2 (by decide) dX10_tilts_186 ?_
              exact pw_locs _ rfl (ih (s + 1) _ _ _ _ (by omega) (by omega) hTn hMn hvn hln)
  exact pw_locs _ rfl (lp2 17 0 (aAt mem c) [] (mem 88 23) mem (by omega) (by omega) rfl (vMem.rf mem c) hv (Nat.le_refl _))
