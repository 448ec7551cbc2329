/-! ===== the class: a move done, the number behind a move ===== -/
theorem tM.tr {m m1 m2 : pM} {b : Nat} {e f : pEv} (h : tM m m1 b e) (g : tM m1 m2 b f) : tM m m2 b (e ++ f) := by
  have c := nEv_c (m := nEv m e) h.2.1 h.2.2 f
  refine ⟨fun a h1 h2 h3 => (g.1 a h1 h2 h3).trans (h.1 a h1 h2 h3), ?_, ?_⟩
  · rw [g.2.1, c.1, nEv_app]
  · rw [g.2.2, c.2, nEv_app]
theorem tM.n (m : pM) (b : Nat) (l : pEv) : tM m (nEv m l) b l := (tM.rf m b).e l
def Fr2 (b : Nat) (m m1 : pM) : Prop := ∀ a, a ≠ b + 4 → a ≠ b + 7 → m1 a = m a
noncomputable def pfR (A : pM) (c : Int) (v : Int → Int) (mv : Int) : Int := if iRes A c v mv = 0 then 0 else if aStuck A c mv ≠ 0 then -10 - aStuck A c mv else 1
noncomputable def pfV (A : pM) (c : Int) (v : Int → Int) (mv : Int) : Int → Int := if iRes A c v mv = 0 then v else if aStuck A c mv ≠ 0 then v else (dRes A c mv v).1
noncomputable def pfE (A : pM) (c : Int) (v : Int → Int) (mv : Int) : pEv := iEv A c v mv ++ (if iRes A c v mv = 0 then [] else if aStuck A c mv ≠ 0 then [(false, aStuck A c mv)] else (dRes A c mv v).2)
theorem numV_up {A : pM} {c : Int} (v : Int → Int) {s : Nat} (y : Int) (hk : aKind A c s ≠ -1) (k : Nat) : numV A c (vUp v s y) k = numV A c v k + (if s < k then (y - v s) * pW A c s else 0) := by
  induction k with
  | zero => rfl
  | succ k ih =>
    show numV A c (vUp v s y) k + pW A c k * eAv A c (vUp v s y) k = numV A c v k + pW A c k * eAv A c v k + _
    rw [ih]
    by_cases e : s = k
    · subst e
      have e1 : eAv A c (vUp v s y) s = y := by unfold eAv vUp; rw [if_neg hk, if_pos rfl]
      have e2 : eAv A c v s = v s := by unfold eAv; rw [if_neg hk]
      rw [e1, e2, if_neg (Nat.lt_irrefl s), if_pos (Nat.lt_succ_self s), Int.sub_mul, Int.mul_comm (pW A c s) y, Int.mul_comm (pW A c s) (v s)]; omega
    · have e1 : eAv A c (vUp v s y) k = eAv A c v k := by unfold eAv vUp; rw [if_neg (show ¬ ((k : Int) = (s : Int)) by omega)]
      rw [e1]
      by_cases q : s < k
      · rw [if_pos q, if_pos (by omega)]; omega
      · rw [if_neg q, if_neg (by omega)]; omega
theorem tGo_none {A : pM} {c : Int} (t : Int) (v : Int → Int) (h : ¬ ∃ s, 0 ≤ s ∧ s ≤ 15 ∧ (A 90 (16 * c + s) = 2 ∨ A 90 (16 * c + s) = 3)) (k : Nat) (hk : k ≤ 16) : tGo A c t k v = (v, []) := by
  induction k with
  | zero => rfl
  | succ k ih =>
    have i := ih (by omega)
    rw [tGo_succ, i]
    have e : tSt A c t k v = (v, []) := by
      unfold tSt
      rw [if_pos]
      unfold tBy
      rw [if_pos]
      have e0 : aKind A c k = A 90 (16 * c + k) := rfl
      by_cases q : A 90 (16 * c + k) = 2 ∨ A 90 (16 * c + k) = 3
      · exact absurd ⟨(k : Int), by omega, by omega, q⟩ h
      · rw [e0]; omega
    show ((tSt A c t k v).1, [] ++ (tSt A c t k v).2) = _
    rw [e]; rfl
theorem mvN_at {A : pM} {c : Int} (hs : sOk A c) {v : Int → Int} (hv : pOkv A c v) {mv : Int} (hm : 0 ≤ mv) : mvN A c (numV A c v 16) mv = if iRes A c v mv = 0 then -1 else numV A c (dRes A c mv v).1 16 := by
  have hk := setV_num hs.2.2 v hv
  rw [mvN_v hs v _ hm, iRes_k hs hk hm]
  by_cases q : iRes A c (setV A c v (numV A c v 16)) mv = 0
  · rw [if_pos q, if_pos q]
  · rw [if_neg q, if_neg q]
    have hkd : mv < 32 → aKind A c (mv / 2) ≠ -1 := fun z => iRes_kind q z
    exact (numV_k (dRes_k hs hm hkd hk).1 16 (by omega)).symm
theorem iRes_go {A : pM} {c : Int} {v : Int → Int} {mv : Int} (h : iRes A c v mv = 1) (hm : mv < 32) : bFind A c (mv / 2) = 0 ∧ (aKind A c (mv / 2) = 1 ∨ (0 ≤ bTo v mv ∧ bTo v mv ≤ aSpan A c (mv / 2) - 1)) ∧ (fRes A c v (mv / 2)).1 = -1 := by
  have h1 : (bRes A c v mv).1 = -1 := by
    by_cases q : (bRes A c v mv).1 = -1
    · exact q
    · unfold iRes at h; rw [if_neg q] at h; omega
  have hb := bFind_ran A c (mv / 2)
  unfold bRes at h1
  rw [if_neg (by omega)] at h1
  by_cases q : bFind A c (mv / 2) ≠ 0
  · rw [if_pos q] at h1
    have : -10 - bFind A c (mv / 2) = -1 := h1
    omega
  · rw [if_neg q] at h1
    by_cases q2 : aKind A c (mv / 2) = 1 ∨ (0 ≤ bTo v mv ∧ bTo v mv ≤ aSpan A c (mv / 2) - 1)
    · rw [if_pos q2] at h1
      exact ⟨by omega, q2, h1⟩
    · rw [if_neg q2] at h1
      have : (-3 : Int) = -1 := h1
      omega
theorem iRes_no {A : pM} {c : Int} {v : Int → Int} {mv : Int} (hm : mv < 32) (hb : bFind A c (mv / 2) = 0) (hg : aKind A c (mv / 2) = 1 ∨ (0 ≤ bTo v mv ∧ bTo v mv ≤ aSpan A c (mv / 2) - 1)) : iRes A c v mv = if (fRes A c v (mv / 2)).1 = -1 then 1 else 0 := by
  have e : bRes A c v mv = ((fRes A c v (mv / 2)).1, (true, bBody (aKind A c (mv / 2))) :: (fRes A c v (mv / 2)).2) := by unfold bRes; rw [if_neg (by omega), if_neg (by omega), if_pos hg]
  unfold iRes
  rw [e]
set_option maxHeartbeats 4000000 in
set_option maxRecDepth 100000 in
theorem h_perform (d : Nat) (hd : 4 ≤ d) (n : Nat) (ok : pO) (mem : pM) (hN : NUp n ok) (b : Nat) (hC : ChUp n ok b) (A : pM) (c : Int) (v : Int → Int) (hI : cIn A c) (hS : CS A c mem b) (hV : CV A c mem b v) (hv : pOkv A c v) (mv : Int) (hm : 0 ≤ mv ∧ mv < 38) (hJ : mem b 13 = A 99 c ∧ mem b 14 = A 100 c) (ht : 0 ≤ mem 2 1 ∧ mem 2 1 ≤ 700000000) : PM mi_X0_perform d [vr b, vi mv] n ok mem n (fun r ok' mem' => r = some (vi (pfR A c v mv)) ∧ ok = ok' ∧ tM mem mem' b (pfE A c v mv) ∧ CV A c mem' b (pfV A c v mv)) := by
  obtain ⟨hN5, hN3⟩ := id hN
  obtain ⟨hC0, ⟨hC1, hC2, hC3, hC4, hC5, hC6, hC7⟩, hC8, ⟨hC9, hC10, hC11, hC12, hC13, hC14, hC15⟩, hC16, hC17, hb5, hb59⟩ := id hC
  obtain ⟨hR, hD, hSo⟩ := id hS
  have hOk := hI.ok
  refine PM.of (by decide) (by decide) (Nat.le_refl _) (Nat.le_of_ble_eq_true rfl) ?_
  refine pw_aload_n 0 rfl dX0_perform_0 rfl ?_
  refine pw_iload_n 1 rfl dX0_perform_1 rfl ?_
  refine pw_callV (d' := d - 1) (As := [_]) (ci := 0) dX0_perform_2 ok_X0_barOf kw_807 rfl rfl (Of.o (by assumption)) (by omega) rfl (Nat.le_of_ble_eq_true rfl) (h_barOf (d - 1) (by omega) n ok mem hN b hC A c v hI hS hV hv mv hm (by omega)) (Nat.le_refl _) (Or.inl rfl) (fun r ok1 m1 hq => ?_)
  obtain ⟨rfl, rfl, em1⟩ := hq
  have hbr := bRes_ran (m := A) (c := c) v mv hI.2.2.1.1
  have hM1 : tM mem m1 b (iEv A c v mv) := by rw [← em1]; exact tM.n _ _ _
  have hS1 := hM1.s hb5 hS
  have hV1 : CV A c m1 b v := by rw [← em1]; exact hV.ev hb5 _
  have hl1 := iEv_len (m := A) (c := c) v mv hI.2.2.1.1
  have ht1 := hM1.t
  have gb : m1 b = mem b := hM1.1 b (by omega) (by omega) (by omega)
  refine pw_iconst dX0_perform_5 ?_
  refine pw_icmp_eq 11 (by decide) dX0_perform_6 (by omega) (by omega) (fun c6 => ?_) (fun c6 => ?_)
  · skip
    have hi : iRes A c v mv = 1 := by unfold iRes; rw [if_pos (by omega)]
    refine pw_iload_n 1 rfl dX0_perform_11 rfl ?_
    refine pw_bipush dX0_perform_12 (by decide) ?_
    refine pw_icmp_lt 28 (by decide) dX0_perform_14 (by omega) (by omega) (fun c14 => ?_) (fun c14 => ?_)
    · skip
      have hkn := iRes_kind (show ¬ iRes A c v mv = 0 by omega) (by omega)
      have hp := hOk.1.2.2 (mv / 2) (by omega) (by omega) hkn
      have hgl := gl_f (A := A) (c := c) (v := v) (mv := mv) hp.1 (hv _ (by omega) (by omega) hkn)
      have hbf := iRes_go hi (show mv < 32 by omega)
      refine pw_iload_n 1 rfl dX0_perform_28 rfl ?_
      refine pw_iconst dX0_perform_29 ?_
      refine pw_idiv dX0_perform_30 (by omega) (by omega) ?_
      refine pw_istore_n 2 rfl dX0_perform_31 (by decide) ?_
      refine pw_iload_n 2 rfl dX0_perform_32 rfl ?_
      refine pw_aload_n 0 rfl dX0_perform_33 rfl ?_
      refine pw_gI 14 14 rfl dX0_perform_34 cOk0 (by assumption) (by decide) kw_260 (by decide) (fun r34 => ?_)
      rw [gb, hJ.2] at r34 ⊢
      refine pw_icmp_ne 60 (by decide) dX0_perform_37 (by omega) (by omega) (fun c37 => ?_) (fun c37 => ?_)
      · skip
        have hst : aStuck A c mv = 0 := by unfold aStuck; rw [if_neg (fun z => c37 z.2)]
        refine pw_aload_n 0 rfl dX0_perform_60 rfl ?_
        refine pw_gR 4 (b + 4) dX0_perform_61 cOk0 (by assumption) (by decide) kw_238 (by decide) rfl ?_
        refine pw_iload_n 2 rfl dX0_perform_64 rfl ?_
        refine pw_aload_n 0 rfl dX0_perform_65 rfl ?_
        refine pw_iload_n 1 rfl dX0_perform_66 rfl ?_
        refine pw_callV (d' := d - 1) (As := [_]) (ci := 0) dX0_perform_67 ok_X0_goalOf kw_719 rfl rfl (Of.o (by assumption)) (by omega) rfl (Nat.le_of_ble_eq_true rfl) (h_goalOf (d - 1) (by omega) n ok m1 hN b hC A c v hI hS1 hV1 hv mv (by omega) hkn) (Nat.le_refl _) (Or.inl rfl) (fun r ok1 mem1 hq => ?_)
        obtain ⟨rfl, rfl, rfl⟩ := hq
        refine pw_iastore dX0_perform_70 (by assumption) (by omega) (by omega) (by omega) ?_
        refine pw_iconst dX0_perform_71 ?_
        refine pw_iret dX0_perform_72 rfl rfl ?_
        have hgo : gl A c v mv = (v (mv / 2) + (if mv % 2 = 0 then aSpan A c (mv / 2) - 1 else 1)) % aSpan A c (mv / 2) := by omega
        have hd : dRes A c mv v = (vUp v (mv / 2) (gl A c v mv), []) := by unfold dRes; rw [if_pos (by omega), hgo]
        refine ⟨congrArg (fun z => some (vi z)) ?_, rfl, ?_, ?_⟩
        · unfold pfR; rw [if_neg (by omega), if_neg (fun z => z hst)]
        · unfold pfE; rw [if_neg (by omega), if_neg (fun z => z hst), hd, List.append_nil]; exact hM1.w hb5 _ _
        · unfold pfV; rw [if_neg (by omega), if_neg (fun z => z hst), hd]; exact hV1.up hkn
      · skip
        refine pw_aload_n 0 rfl dX0_perform_40 rfl ?_
        refine pw_gR 0 2 dX0_perform_41 cOk0 (by assumption) (by decide) kw_227 (by decide) rfl ?_
        refine pw_aload_n 0 rfl dX0_perform_44 rfl ?_
        refine pw_gI 13 13 rfl dX0_perform_45 cOk0 (by assumption) (by decide) kw_259 (by decide) (fun r45 => ?_)
        rw [gb, hJ.1] at r45 ⊢
        refine pw_if_ne 55 (by decide) dX0_perform_48 (by omega) (fun c48 => ?_) (fun c48 => ?_)
        · skip
          have hst : aStuck A c mv = 5 := by unfold aStuck; rw [if_pos ⟨by omega, by omega⟩, if_neg c48]
          refine pw_iconst dX0_perform_55 ?_
          refine pw_callV (d' := d - 1) (As := [_]) (ci := 5) dX0_perform_56 ok_X5_met kw_682 rfl rfl (Of.o (by assumption)) (by omega) rfl (Nat.le_of_ble_eq_true rfl) (n_met (d - 1) (by omega) n ok m1 hN _ (by omega)) (Nat.le_refl _) (Or.inl rfl) (fun r ok1 mem1 hq => ?_)
          obtain ⟨rfl, rfl, em2⟩ := hq
          refine pw_iret dX0_perform_59 rfl rfl ?_
          refine ⟨congrArg (fun z => some (vi z)) ?_, rfl, ?_, ?_⟩
          · unfold pfR; rw [if_neg (by omega), if_pos (by omega), hst]
          · unfold pfE; rw [if_neg (by omega), if_pos (by omega), hst, ← em2]; exact hM1.e [(false, _)]
          · unfold pfV; rw [if_neg (by omega), if_pos (by omega), ← em2]; exact hV1.ev hb5 [(false, _)]
        · skip
          have hst : aStuck A c mv = 1 := by unfold aStuck; rw [if_pos ⟨by omega, by omega⟩, if_pos (by omega)]
          refine pw_iconst dX0_perform_51 ?_
          refine pw_goto 56 (by decide) dX0_perform_52 ?_
          refine pw_callV (d' := d - 1) (As := [_]) (ci := 5) dX0_perform_56 ok_X5_met kw_682 rfl rfl (Of.o (by assumption)) (by omega) rfl (Nat.le_of_ble_eq_true rfl) (n_met (d - 1) (by omega) n ok m1 hN _ (by omega)) (Nat.le_refl _) (Or.inl rfl) (fun r ok1 mem1 hq => ?_)
          obtain ⟨rfl, rfl, em2⟩ := hq
          refine pw_iret dX0_perform_59 rfl rfl ?_
          refine ⟨congrArg (fun z => some (vi z)) ?_, rfl, ?_, ?_⟩
          · unfold pfR; rw [if_neg (by omega), if_pos (by omega), hst]
          · unfold pfE; rw [if_neg (by omega), if_pos (by omega), hst, ← em2]; exact hM1.e [(false, _)]
          · unfold pfV; rw [if_neg (by omega), if_pos (by omega), ← em2]; exact hV1.ev hb5 [(false, _)]
    · skip
      have hd : dRes A c mv v = tGo A c (mv - 32) 16 v := by unfold dRes; rw [if_neg (by omega)]
      have hst : aStuck A c mv = 0 := by unfold aStuck; rw [if_neg (by omega)]
      refine pw_aload_n 0 rfl dX0_perform_17 rfl ?_
      refine pw_iload_n 1 rfl dX0_perform_18 rfl ?_
      refine pw_bipush dX0_perform_19 (by decide) ?_
      refine pw_isub dX0_perform_21 ?_
      refine pw_iconst dX0_perform_22 ?_
      refine pw_callV (d' := d - 1) (As := [_, _]) (ci := 0) dX0_perform_23 ok_X0_tilt kw_699 rfl rfl (Of.o (by assumption)) (by omega) rfl (Nat.le_of_ble_eq_true rfl) (h_tilt (d - 1) (by omega) n ok m1 hN b hC A c v hI hS1 hV1 hv (mv - 32) (by omega) 1 (by omega) (by omega)) (Nat.le_refl _) (Or.inl rfl) (fun r ok1 m2 hq => ?_)
      obtain ⟨rfl, rfl, hM2, hV2⟩ := hq
      rw [← hd] at hM2 hV2
      refine pw_iconst dX0_perform_26 ?_
      refine pw_iret dX0_perform_27 rfl rfl ?_
      refine ⟨congrArg (fun z => some (vi z)) ?_, rfl, ?_, ?_⟩
      · unfold pfR; rw [if_neg (by omega), if_neg (fun z => z hst)]
      · unfold pfE; rw [if_neg (by omega), if_neg (fun z => z hst)]; exact hM1.tr hM2
      · unfold pfV; rw [if_neg (by omega), if_neg (fun z => z hst)]; exact hV2
  · skip
    have hi : iRes A c v mv = 0 := by unfold iRes; rw [if_neg c6]
    refine pw_iconst dX0_perform_9 ?_
    refine pw_iret dX0_perform_10 rfl rfl ?_
    refine ⟨congrArg (fun z => some (vi z)) ?_, rfl, ?_, ?_⟩
    · unfold pfR; rw [if_pos hi]
    · unfold pfE; rw [if_pos hi, List.append_nil]; exact hM1
    · unfold pfV; rw [if_pos hi]; exact hV1
set_option maxHeartbeats 4000000 in
set_option maxRecDepth 100000 in
theorem h_numberBehind (d : Nat) (hd : 4 ≤ d) (n : Nat) (ok : pO) (mem : pM) (hN : NUp n ok) (b : Nat) (hC : ChUp n ok b) (A : pM) (c : Int) (v : Int → Int) (hI : cIn A c) (hS : CS A c mem b) (hV : CV A c mem b v) (hv : pOkv A c v) (mv : Int) (hm : 0 ≤ mv ∧ mv < 38) (ht : 0 ≤ mem 2 1 ∧ mem 2 1 ≤ 700000000) : PM mi_X0_numberBehind d [vr b, vi mv, vi (numV A c v 16)] n ok mem n (fun r ok' mem' => r = some (vi (mvN A c (numV A c v 16) mv)) ∧ ok = ok' ∧ Fr2 b mem mem' ∧ CV A c mem' b v) := by
  obtain ⟨hN5, hN3⟩ := id hN
  obtain ⟨hC0, ⟨hC1, hC2, hC3, hC4, hC5, hC6, hC7⟩, hC8, ⟨hC9, hC10, hC11, hC12, hC13, hC14, hC15⟩, hC16, hC17, hb5, hb59⟩ := id hC
  obtain ⟨hR, hD, hSo⟩ := id hS
  have hOk := hI.ok
  refine PM.of (by decide) (by decide) (Nat.le_refl _) (Nat.le_of_ble_eq_true rfl) ?_
  refine pw_iload_n 1 rfl dX0_numberBehind_0 rfl ?_
  refine pw_bipush dX0_numberBehind_1 (by decide) ?_
  refine pw_icmp_lt 15 (by decide) dX0_numberBehind_3 (by omega) (by omega) (fun c3 => ?_) (fun c3 => ?_)
  · skip
    refine pw_iload_n 1 rfl dX0_numberBehind_15 rfl ?_
    refine pw_bipush dX0_numberBehind_16 (by decide) ?_
    refine pw_icmp_lt 67 (by decide) dX0_numberBehind_18 (by omega) (by omega) (fun c18 => ?_) (fun c18 => ?_)
    · skip
      refine pw_iload_n 1 rfl dX0_numberBehind_67 rfl ?_
      refine pw_iconst dX0_numberBehind_68 ?_
      refine pw_idiv dX0_numberBehind_69 (by omega) (by omega) ?_
      refine pw_istore_n 3 rfl dX0_numberBehind_70 (by decide) ?_
      refine pw_aload_n 0 rfl dX0_numberBehind_71 rfl ?_
      refine pw_gR 2 (b + 2) dX0_numberBehind_72 cOk0 (by assumption) (by decide) kw_230 (by decide) rfl ?_
      refine pw_iload_n 3 rfl dX0_numberBehind_75 rfl ?_
      refine pw_iaload dX0_numberBehind_76 (by assumption) (by omega) (by omega) (fun r76 => ?_)
      have e2 : mem (b + 2) (mv / 2) = aKind A c (mv / 2) := (hR.2.1 _ (by omega) (by omega)).1
      rw [e2] at r76 ⊢
      refine pw_callS (d' := d - 1) (As := [_]) dX0_numberBehind_77 ok_X0_isHandled kw_716 (by omega) rfl (Nat.le_of_ble_eq_true rfl) (s_isHandled (d - 1) (by omega) n ok mem _ (by omega)) (Nat.le_refl _) (Or.inl rfl) (fun r ok1 mem1 hq => ?_)
      obtain ⟨rfl, rfl, rfl⟩ := hq
      refine pw_if_ne 85 (by decide) dX0_numberBehind_80 (by split <;> omega) (fun c80 => ?_) (fun c80 => ?_)
      · skip
        rw [ne_eq, bz_n] at c80
        have hkn : aKind A c (mv / 2) ≠ -1 := by omega
        have hck := hI.in (show 0 ≤ (mv / 2) by omega) (by omega) hkn
        have hbf : bFind A c (mv / 2) = 0 := by unfold bFind; rw [if_neg (fun z => z hck), if_pos c80]
        have hp := hOk.1.2.2 (mv / 2) (by omega) (by omega) hkn
        have hvs := hv (mv / 2) (by omega) (by omega) hkn
        have hgl := gl_f (A := A) (c := c) (v := v) (mv := mv) hp.1 hvs
        refine pw_aload_n 0 rfl dX0_numberBehind_85 rfl ?_
        refine pw_iload_n 1 rfl dX0_numberBehind_86 rfl ?_
        refine pw_callV (d' := d - 1) (As := [_]) (ci := 0) dX0_numberBehind_87 ok_X0_goalOf kw_719 rfl rfl (Of.o (by assumption)) (by omega) rfl (Nat.le_of_ble_eq_true rfl) (h_goalOf (d - 1) (by omega) n ok mem hN b hC A c v hI hS hV hv mv (by omega) hkn) (Nat.le_refl _) (Or.inl rfl) (fun r ok1 mem1 hq => ?_)
        obtain ⟨rfl, rfl, rfl⟩ := hq
        refine pw_istore dX0_numberBehind_90 (by decide) ?_
        refine pw_iload dX0_numberBehind_92 rfl ?_
        refine pw_iconst dX0_numberBehind_94 ?_
        refine pw_icmp_eq 108 (by decide) dX0_numberBehind_95 (by omega) (by omega) (fun c95 => ?_) (fun c95 => ?_)
        · skip
          have e9 : mvN A c (numV A c v 16) mv = -1 := by
            rw [mvN_at hOk.1 hv hm.1, if_pos]
            have e8 : bRes A c v mv = (-3, [(true, bBody (aKind A c (mv / 2)))]) := by unfold bRes; rw [if_neg (show ¬ 32 ≤ mv by omega), if_neg (fun z => z hbf), if_neg (by omega)]
            unfold iRes; rw [e8]; rfl
          refine pw_iconst dX0_numberBehind_108 ?_
          refine pw_iret dX0_numberBehind_109 rfl rfl ?_
          rw [e9]; exact ⟨rfl, rfl, fun _ _ _ => rfl, hV⟩
        · skip
          have hgo : aKind A c (mv / 2) = 1 ∨ (0 ≤ bTo v mv ∧ bTo v mv ≤ aSpan A c (mv / 2) - 1) := by omega
          have hin := iRes_no (v := v) (show mv < 32 by omega) hbf hgo
          refine pw_aload_n 0 rfl dX0_numberBehind_98 rfl ?_
          refine pw_iload_n 3 rfl dX0_numberBehind_99 rfl ?_
          refine pw_iconst dX0_numberBehind_100 ?_
          refine pw_callV (d' := d - 1) (As := [_, _]) (ci := 0) dX0_numberBehind_101 ok_X0_firstThatFails kw_666 rfl rfl (Of.o (by assumption)) (by omega) rfl (Nat.le_of_ble_eq_true rfl) (h_ftfQ (d - 1) (by omega) n ok mem hN b hC A c v hI hS hV hv (mv / 2) (by omega)) (Nat.le_refl _) (Or.inl rfl) (fun r ok1 mem1 hq => ?_)
          obtain ⟨rfl, rfl, rfl⟩ := hq
          have hfr := fRes_ran (m := A) (c := c) v (mv / 2) hI.2.2.1.1
          refine pw_iconst dX0_numberBehind_104 ?_
          refine pw_icmp_eq 110 (by decide) dX0_numberBehind_105 (by have e0 : aNc A c = A 94 c := rfl; have := hI.2.2.1.1; omega) (by omega) (fun c105 => ?_) (fun c105 => ?_)
          · skip
            refine pw_iload_n 2 rfl dX0_numberBehind_110 rfl ?_
            refine pw_iload dX0_numberBehind_111 rfl ?_
            refine pw_aload_n 0 rfl dX0_numberBehind_113 rfl ?_
            refine pw_gR 4 (b + 4) dX0_numberBehind_114 cOk0 (by assumption) (by decide) kw_238 (by decide) rfl ?_
            refine pw_iload_n 3 rfl dX0_numberBehind_117 rfl ?_
            refine pw_iaload dX0_numberBehind_118 (by assumption) (by omega) (by omega) (fun r118 => ?_)
            have e4 : mem (b + 4) (mv / 2) = v (mv / 2) := by rw [hV _ (by omega) (by omega)]; unfold eAv; rw [if_neg hkn]
            rw [e4] at r118 ⊢
            refine pw_isub dX0_numberBehind_119 ?_
            refine pw_aload_n 0 rfl dX0_numberBehind_120 rfl ?_
            refine pw_gR 6 (b + 6) dX0_numberBehind_121 cOk0 (by assumption) (by decide) kw_244 (by decide) rfl ?_
            refine pw_iload_n 3 rfl dX0_numberBehind_124 rfl ?_
            refine pw_iaload dX0_numberBehind_125 (by assumption) (by omega) (by omega) (fun r125 => ?_)
            have e6 : mem (b + 6) (mv / 2) = pW A c (mv / 2).toNat := by have := hD.1 (mv / 2).toNat (by omega); rw [Int.toNat_of_nonneg (by omega)] at this; exact this
            rw [e6] at r125 ⊢
            refine pw_imul dX0_numberBehind_126 ?_
            refine pw_iadd dX0_numberBehind_127 ?_
            refine pw_iret dX0_numberBehind_128 rfl rfl ?_
            have hgo2 : gl A c v mv = (v (mv / 2) + (if mv % 2 = 0 then aSpan A c (mv / 2) - 1 else 1)) % aSpan A c (mv / 2) := by omega
            have hd : dRes A c mv v = (vUp v (mv / 2) (gl A c v mv), []) := by unfold dRes; rw [if_pos (by omega), hgo2]
            have hup := numV_up (A := A) (c := c) v (s := (mv / 2).toNat) (gl A c v mv) (by rw [Int.toNat_of_nonneg (by omega)]; exact hkn) 16
            rw [Int.toNat_of_nonneg (by omega), if_pos (by omega)] at hup
            have e9 : mvN A c (numV A c v 16) mv = numV A c v 16 + (gl A c v mv - v (mv / 2)) * pW A c (mv / 2).toNat := by
              have hi1 : iRes A c v mv = 1 := by rw [hin, if_pos c105]
              rw [mvN_at hOk.1 hv hm.1, if_neg (by omega), hd]; exact hup
            rw [e9]; exact ⟨rfl, rfl, fun _ _ _ => rfl, hV⟩
          · skip
            have e9 : mvN A c (numV A c v 16) mv = -1 := by rw [mvN_at hOk.1 hv hm.1, hin, if_neg c105]; rfl
            refine pw_iconst dX0_numberBehind_108 ?_
            refine pw_iret dX0_numberBehind_109 rfl rfl ?_
            rw [e9]; exact ⟨rfl, rfl, fun _ _ _ => rfl, hV⟩
      · skip
        rw [bz_0] at c80
        refine pw_iconst dX0_numberBehind_83 ?_
        refine pw_iret dX0_numberBehind_84 rfl rfl ?_
        have e9 : mvN A c (numV A c v 16) mv = -1 := by
          rw [mvN_at hOk.1 hv hm.1, if_pos]
          unfold iRes bRes
          have hcr := aComes_ran A c (mv / 2)
          have hbf : bFind A c (mv / 2) ≠ 0 := by
            unfold bFind
            split
            · assumption
            · omega
          have hbr := bFind_ran A c (mv / 2)
          rw [if_neg (show ¬ 32 ≤ mv by omega), if_pos hbf, if_neg (by show ¬ -10 - bFind A c (mv / 2) = -1; omega)]
        rw [e9]; exact ⟨rfl, rfl, fun _ _ _ => rfl, hV⟩
    · skip
      exfalso; omega
  · skip
    refine pw_aload_n 0 rfl dX0_numberBehind_6 rfl ?_
    refine pw_gI 10 10 rfl dX0_numberBehind_7 cOk0 (by assumption) (by decide) kw_251 (by decide) (fun r7 => ?_)
    refine pw_if_ne 15 (by decide) dX0_numberBehind_10 (by omega) (fun c10 => ?_) (fun c10 => ?_)
    · skip
      refine pw_iload_n 1 rfl dX0_numberBehind_15 rfl ?_
      refine pw_bipush dX0_numberBehind_16 (by decide) ?_
      refine pw_icmp_lt 67 (by decide) dX0_numberBehind_18 (by omega) (by omega) (fun c18 => ?_) (fun c18 => ?_)
      · skip
        exfalso; omega
      · skip
        refine pw_aload_n 0 rfl dX0_numberBehind_21 rfl ?_
        refine pw_gR 4 (b + 4) dX0_numberBehind_22 cOk0 (by assumption) (by decide) kw_238 (by decide) rfl ?_
        refine pw_iconst dX0_numberBehind_25 ?_
        refine pw_aload_n 0 rfl dX0_numberBehind_26 rfl ?_
        refine pw_gR 7 (b + 7) dX0_numberBehind_27 cOk0 (by assumption) (by decide) kw_245 (by decide) rfl ?_
        refine pw_iconst dX0_numberBehind_30 ?_
        refine pw_bipush dX0_numberBehind_31 (by decide) ?_
        refine pw_copy dX0_numberBehind_33 kw_515 kw_517 kw_516 kw_83 (Nat.le_of_ble_eq_true rfl) (by omega) (by assumption) (by assumption) (by omega) (by omega) (by omega) (by omega) (by omega) ?_
        obtain ⟨m1, em1⟩ : ∃ x, x = cpM mem (b + 4) 0 (b + 7) 0 16 := ⟨_, rfl⟩
        rw [← em1]
        have f1 : FrW (b + 7) mem m1 := fun a ha => by rw [em1]; exact cpM_a _ _ _ _ _ ha
        have g7 : ∀ j, 0 ≤ j → j < 16 → m1 (b + 7) j = mem (b + 4) j := fun j j1 j2 => by rw [em1]; unfold cpM; rw [if_pos ⟨rfl, by omega, by omega⟩]; congr 1; omega
        have hS1 : CS A c m1 b := hS.m (fun a _ _ _ h4 => f1 a h4)
        have hV1 : CV A c m1 b v := hV.m (f1 (b + 4) (by omega))
        have h21 : m1 2 1 = mem 2 1 := by rw [f1 2 (by omega)]
        refine pw_aload_n 0 rfl dX0_numberBehind_36 rfl ?_
        refine pw_iload_n 1 rfl dX0_numberBehind_37 rfl ?_
        refine pw_bipush dX0_numberBehind_38 (by decide) ?_
        refine pw_isub dX0_numberBehind_40 ?_
        refine pw_iconst dX0_numberBehind_41 ?_
        refine pw_callV (d' := d - 1) (As := [_, _]) (ci := 0) dX0_numberBehind_42 ok_X0_tilt kw_699 rfl rfl (Of.o (by assumption)) (by omega) rfl (Nat.le_of_ble_eq_true rfl) (h_tilt (d - 1) (by omega) n ok m1 hN b hC A c v hI hS1 hV1 hv (mv - 32) (by omega) 0 (by omega) (by omega)) (Nat.le_refl _) (Or.inl rfl) (fun r ok1 m2 hq => ?_)
        obtain ⟨rfl, rfl, hM2, hV2⟩ := hq
        have hM2 : tM m1 m2 b [] := hM2
        have hd : dRes A c mv v = tGo A c (mv - 32) 16 v := by unfold dRes; rw [if_neg (by omega)]
        rw [← hd] at hV2
        have hS2 := hM2.s hb5 hS1
        have hv2 : pOkv A c (dRes A c mv v).1 := dRes_ok hOk.1.2.2 hm.1 (fun z => absurd z (by omega)) hv
        have hi : iRes A c v mv = 1 := by unfold iRes bRes; rw [if_pos (show 32 ≤ mv by omega)]; rfl
        have e9 : mvN A c (numV A c v 16) mv = numV A c (dRes A c mv v).1 16 := by rw [mvN_at hOk.1 hv hm.1, if_neg (by omega)]
        refine pw_aload_n 0 rfl dX0_numberBehind_45 rfl ?_
        refine pw_callV (d' := d - 1) (As := []) (ci := 0) dX0_numberBehind_46 ok_X0_number kw_715 rfl rfl (Of.o (by assumption)) (by omega) rfl (Nat.le_of_ble_eq_true rfl) (h_number (d - 1) (by omega) n ok m2 hN b hC A c (dRes A c mv v).1 hI hS2 hV2 hv2) (Nat.le_refl _) (Or.inl rfl) (fun r ok1 mem1 hq => ?_)
        obtain ⟨rfl, rfl, rfl⟩ := hq
        refine pw_istore_n 3 rfl dX0_numberBehind_49 (by decide) ?_
        refine pw_aload_n 0 rfl dX0_numberBehind_50 rfl ?_
        refine pw_gR 7 (b + 7) dX0_numberBehind_51 cOk0 (by assumption) (by decide) kw_245 (by decide) rfl ?_
        refine pw_iconst dX0_numberBehind_54 ?_
        refine pw_aload_n 0 rfl dX0_numberBehind_55 rfl ?_
        refine pw_gR 4 (b + 4) dX0_numberBehind_56 cOk0 (by assumption) (by decide) kw_238 (by decide) rfl ?_
        refine pw_iconst dX0_numberBehind_59 ?_
        refine pw_bipush dX0_numberBehind_60 (by decide) ?_
        refine pw_copy dX0_numberBehind_62 kw_515 kw_517 kw_516 kw_83 (Nat.le_of_ble_eq_true rfl) (by omega) (by assumption) (by assumption) (by omega) (by omega) (by omega) (by omega) (by omega) ?_
        refine pw_iload_n 3 rfl dX0_numberBehind_65 rfl ?_
        refine pw_iret dX0_numberBehind_66 rfl rfl ?_
        rw [e9]
        have ff := hM2.f hb5
        refine ⟨rfl, rfl, fun a h4 h7 => ?_, fun s s1 s2 => ?_⟩
        · rw [cpM_a _ _ _ _ _ h4, ff a h4]
          show m1 a = mem a
          exact f1 a h7
        · unfold cpM
          rw [if_pos ⟨rfl, by omega, by omega⟩, ff (b + 7) (by omega)]
          show m1 (b + 7) (0 + (s - 0)) = _
          rw [show (0 + (s - 0) : Int) = s by omega, g7 s s1 (by omega)]
          exact hV s s1 s2
    · skip
      refine pw_iload_n 2 rfl dX0_numberBehind_13 rfl ?_
      refine pw_iret dX0_numberBehind_14 rfl rfl ?_
      have e9 : mvN A c (numV A c v 16) mv = (numV A c v 16) := by
        have hi : iRes A c v mv = 1 := by unfold iRes bRes; rw [if_pos (show 32 ≤ mv by omega)]; rfl
        have hd : dRes A c mv v = (v, []) := by unfold dRes; rw [if_neg (by omega)]; exact tGo_none _ v (fun z => (hD.2.2.2.1.mpr z) (by omega)) 16 (by omega)
        rw [mvN_at hOk.1 hv hm.1, if_neg (by omega), hd]
      rw [e9]
      exact ⟨rfl, rfl, fun _ _ _ => rfl, hV⟩
