/-! ===== telling, holding, failing ===== -/
def tel (k p t : Int) : Int := if k = 1 then (t + 1) % p else if k = 3 then p - 1 - t else if k = 4 then (if t = 0 then 0 else 1) else t
def tW (k : Int) : List Int := if k = 1 then [2, 1] else if k = 3 then [3, 1] else if k = 4 then [4, 1] else [1]
def hTel (m : pM) (c : Int) (v : Int → Int) (k : Int) : Int := tel (aKind m c (aLook m c k)) (aSpan m c (aLook m c k)) (v (aLook m c k))
def hMet (m : pM) (c : Int) (v : Int → Int) (k : Int) : Int :=
  if aComes m c (aLook m c k) ≠ 0 then aComes m c (aLook m c k) else if aKind m c (aLook m c k) = 5 then 3 else if aMany m c k = -1 then 1 else if aMany m c k ≤ hTel m c v k then 2 else 0
def hIs (m : pM) (c : Int) (v : Int → Int) (k : Int) : Int := if hMet m c v k = 0 ∧ aTru m c k (hTel m c v k) = 1 then 1 else 0
def hEv (m : pM) (c k : Int) : List Int := if aComes m c (aLook m c k) ≠ 0 then [] else if aKind m c (aLook m c k) = 5 then [] else tW (aKind m c (aLook m c k))
abbrev pEv : Type := List (Bool × Int)
def rEv (m : pM) : pEv → pM
  | [] => m
  | (true, x) :: l => rEv (rWrites m x) l
  | (false, x) :: l => rEv (rNotes m x) l
def rWr (m : pM) : List Int → pM
  | [] => m
  | x :: l => rWr (rWrites m x) l
def evW (l : List Int) : pEv := l.map (fun x => (true, x))
theorem rEv_app (m : pM) (a b : pEv) : rEv m (a ++ b) = rEv (rEv m a) b := by
  induction a generalizing m with
  | nil => rfl
  | cons q l ih =>
    obtain ⟨t, x⟩ := q
    cases t <;> exact ih _
theorem rEv_W (m : pM) (l : List Int) : rEv m (evW l) = rWr m l := by
  induction l generalizing m with
  | nil => rfl
  | cons x l ih => exact ih _
/-- what of memory the notes may change -/
def nSame (m m' : pM) : Prop := (∀ a, a ≠ 88 → a ≠ 103 → m' a = m a) ∧ ∀ k, k ≠ 1 → k ≠ 2 → k ≠ 19 → k ≠ 23 → m' 88 k = m 88 k
theorem nSame.rf (m : pM) : nSame m m := ⟨fun _ _ _ => rfl, fun _ _ _ _ _ => rfl⟩
theorem nSame.tr {m m1 m2 : pM} (h : nSame m m1) (h2 : nSame m1 m2) : nSame m m2 := ⟨fun a q1 q2 => (h2.1 a q1 q2).trans (h.1 a q1 q2), fun k q1 q2 q3 q4 => (h2.2 k q1 q2 q3 q4).trans (h.2 k q1 q2 q3 q4)⟩
theorem nSame.w (m : pM) (x : Int) : nSame m (rWrites m x) := by
  unfold rWrites
  split
  · split
    · exact ⟨fun a q1 q2 => wr_a _ _ _ q1, fun k q1 q2 q3 q4 => wr_k _ _ _ _ q3⟩
    · exact ⟨fun a q1 q2 => by rw [wr_a _ _ _ q1, wr_a _ _ _ q2], fun k q1 q2 q3 q4 => by rw [wr_k _ _ _ _ q3, wr_a _ _ _ (by omega)]⟩
  · exact nSame.rf m
theorem nSame.n (m : pM) (x : Int) : nSame m (rNotes m x) := by
  unfold rNotes
  split
  · exact ⟨fun a q1 q2 => by rw [wr_a _ _ _ q1, wr_a _ _ _ q1], fun k q1 q2 q3 q4 => by rw [wr_k _ _ _ _ q2, wr_k _ _ _ _ q1]⟩
  · exact nSame.rf m
theorem nSame.e (m : pM) (l : pEv) : nSame m (rEv m l) := by
  induction l generalizing m with
  | nil => exact nSame.rf m
  | cons q l ih =>
    obtain ⟨t, x⟩ := q
    cases t
    · exact (nSame.n m x).tr (ih _)
    · exact (nSame.w m x).tr (ih _)
theorem nSame.m (m : pM) (z : Int) : nSame m (wr m 88 23 z) := ⟨fun a q1 q2 => wr_a _ _ _ q1, fun k q1 q2 q3 q4 => wr_k _ _ _ _ q4⟩
/-- met is apart from the notes -/
theorem rW_met (m : pM) (x z : Int) : rWrites (wr m 88 23 z) x = wr (rWrites m x) 88 23 z := by
  have e1 : wr m 88 23 z 88 3 = m 88 3 := wr_k _ _ _ _ (by omega)
  have e2 : wr m 88 23 z 88 19 = m 88 19 := wr_k _ _ _ _ (by omega)
  unfold rWrites
  rw [e1, e2]
  split
  · split
    · funext a k; unfold wr; split <;> split <;> first | rfl | (exfalso; omega)
    · funext a k; unfold wr; split <;> split <;> (try split) <;> first | rfl | (exfalso; omega)
  · rfl
theorem rN_met (m : pM) (x z : Int) : rNotes (wr m 88 23 z) x = wr (rNotes m x) 88 23 z := by
  have e1 : wr m 88 23 z 88 3 = m 88 3 := wr_k _ _ _ _ (by omega)
  have e2 : wr m 88 23 z 88 1 = m 88 1 := wr_k _ _ _ _ (by omega)
  unfold rNotes
  rw [e1, e2]
  split
  · funext a k; unfold wr; split <;> split <;> (try split) <;> first | rfl | (exfalso; omega)
  · rfl
theorem rEv_met (m : pM) (z : Int) (l : pEv) : rEv (wr m 88 23 z) l = wr (rEv m l) 88 23 z := by
  induction l generalizing m with
  | nil => rfl
  | cons q l ih =>
    obtain ⟨t, x⟩ := q
    cases t
    · show rEv (rNotes (wr m 88 23 z) x) l = wr (rEv (rNotes m x) l) 88 23 z
      rw [rN_met]; exact ih _
    · show rEv (rWrites (wr m 88 23 z) x) l = wr (rEv (rWrites m x) l) 88 23 z
      rw [rW_met]; exact ih _
theorem wr_wr (m : pM) (a : Nat) (k x y : Int) : wr (wr m a k x) a k y = wr m a k y := by
  funext b j; unfold wr; split <;> rfl
theorem wr_id (m : pM) (a : Nat) (k : Int) : wr m a k (m a k) = m := by
  funext b j; unfold wr; split
  · rename_i h; rw [h.1, h.2]
  · rfl
/-- how far the trace grows -/
theorem rW_tr (m : pM) (x : Int) (h : 0 ≤ m 88 19) : 0 ≤ rWrites m x 88 19 ∧ rWrites m x 88 19 ≤ m 88 19 + 1 := by
  unfold rWrites
  split
  · split
    · rw [wr_s]; omega
    · rw [wr_s]; omega
  · omega
theorem rEv_tr (m : pM) (l : pEv) (h : 0 ≤ m 88 19) : 0 ≤ rEv m l 88 19 ∧ rEv m l 88 19 ≤ m 88 19 + l.length := by
  induction l generalizing m with
  | nil => exact ⟨h, by show m 88 19 ≤ m 88 19 + 0; omega⟩
  | cons q l ih =>
    obtain ⟨t, x⟩ := q
    cases t
    · have e1 : rNotes m x 88 19 = m 88 19 := by
        unfold rNotes
        split
        · rw [wr_k _ _ _ _ (by omega), wr_k _ _ _ _ (by omega)]
        · rfl
      have i := ih (rNotes m x) (by omega)
      show 0 ≤ rEv (rNotes m x) l 88 19 ∧ rEv (rNotes m x) l 88 19 ≤ m 88 19 + ((l.length + 1 : Nat) : Int)
      omega
    · have e1 := rW_tr m x h
      have i := ih (rWrites m x) (by omega)
      show 0 ≤ rEv (rWrites m x) l 88 19 ∧ rEv (rWrites m x) l 88 19 ≤ m 88 19 + ((l.length + 1 : Nat) : Int)
      omega
set_option maxHeartbeats 4000000 in
set_option maxRecDepth 100000 in
theorem r_tells (d : Nat) (hd : 1 ≤ d) (n : Nat) (ok : pO) (mem : pM) (hU : RefUp n ok) (x : Int) (hx : 0 ≤ x ∧ x < 48) (hp : 1 ≤ mem 91 x ∧ mem 91 x ≤ 6) (ha : 0 ≤ mem 92 x ∧ mem 92 x ≤ 6) (ht : 0 ≤ mem 88 19 ∧ mem 88 19 ≤ 1000000000) : PM mi_X10_tells d [vr 88, vi x] n ok mem n (fun r ok' mem' => r = some (vi (tel (mem 90 x) (mem 91 x) (mem 92 x))) ∧ ok = ok' ∧ rWr mem (tW (mem 90 x)) = mem') := by
  obtain ⟨hO, ⟨a89, a90, a91, a92, a93, a94, a95, a96, a97, a98⟩, ⟨a99, a100, a101, a102, a103, a104, a105, a106, a107⟩, ⟨a108, a109, a110, a111, a112, a113, a114, a115, a116, a117, a118, a119⟩, a120, a121, a122⟩ := id hU
  refine PM.of (by decide) (by decide) (Nat.le_refl _) (Nat.le_of_ble_eq_true rfl) ?_
  refine pw_aload_n 0 rfl dX10_tells_0 rfl ?_
  refine pw_gR 5 90 dX10_tells_1 cOk10 (by assumption) (by decide) kw_1070 (by decide) rfl ?_
  refine pw_iload_n 1 rfl dX10_tells_4 rfl ?_
  refine pw_iaload dX10_tells_5 (by assumption) (by omega) (by omega) (fun r5 => ?_)
  refine pw_istore_n 2 rfl dX10_tells_6 (by decide) ?_
  refine pw_iload_n 2 rfl dX10_tells_7 rfl ?_
  refine pw_iconst dX10_tells_8 ?_
  refine pw_icmp_ne 16 (by decide) dX10_tells_9 (by omega) (by omega) (fun c9 => ?_) (fun c9 => ?_)
  · skip
    refine pw_iload_n 2 rfl dX10_tells_16 rfl ?_
    refine pw_iconst dX10_tells_17 ?_
    refine pw_icmp_ne 25 (by decide) dX10_tells_18 (by omega) (by omega) (fun c18 => ?_) (fun c18 => ?_)
    · skip
      refine pw_iload_n 2 rfl dX10_tells_25 rfl ?_
      refine pw_iconst dX10_tells_26 ?_
      refine pw_icmp_ne 34 (by decide) dX10_tells_27 (by omega) (by omega) (fun c27 => ?_) (fun c27 => ?_)
      · skip
        refine pw_iconst dX10_tells_34 ?_
        refine pw_istore_n 3 rfl dX10_tells_35 (by decide) ?_
        refine pw_iload_n 3 rfl dX10_tells_36 rfl ?_
        refine pw_if_le 45 (by decide) dX10_tells_37 (by omega) (fun c37 => ?_) (fun c37 => ?_)
        · skip
          refine pw_aload_n 0 rfl dX10_tells_45 rfl ?_
          refine pw_iconst dX10_tells_46 ?_
          refine pw_callV (d' := d - 1) (As := [_]) (ci := 10) dX10_tells_47 ok_X10_writes kw_1386 rfl rfl (Of.o (by assumption)) (by omega) rfl (Nat.le_of_ble_eq_true rfl) (r_writes (d - 1) (by omega) n ok mem hU 1 (by omega) (by omega)) (Nat.le_refl _) (Or.inl rfl) (fun r ok1 m2 hq => ?_)
          obtain ⟨rfl, rfl, em_m2⟩ := hq
          have hs_m2 := nSame.w mem 1
          have ht_m2 := rW_tr mem 1 ht.1
          rw [em_m2] at hs_m2 ht_m2
          have e91 := hs_m2.1 91 (by omega) (by omega)
          have e92 := hs_m2.1 92 (by omega) (by omega)
          refine pw_iload_n 2 rfl dX10_tells_50 rfl ?_
          refine pw_iconst dX10_tells_51 ?_
          refine pw_icmp_ne 73 (by decide) dX10_tells_52 (by omega) (by omega) (fun c52 => ?_) (fun c52 => ?_)
          · skip
            refine pw_iload_n 2 rfl dX10_tells_73 rfl ?_
            refine pw_iconst dX10_tells_74 ?_
            refine pw_icmp_ne 96 (by decide) dX10_tells_75 (by omega) (by omega) (fun c75 => ?_) (fun c75 => ?_)
            · skip
              refine pw_iload_n 2 rfl dX10_tells_96 rfl ?_
              refine pw_iconst dX10_tells_97 ?_
              refine pw_icmp_ne 118 (by decide) dX10_tells_98 (by omega) (by omega) (fun c98 => ?_) (fun c98 => ?_)
              · skip
                refine pw_aload_n 0 rfl dX10_tells_118 rfl ?_
                refine pw_gR 7 92 dX10_tells_119 cOk10 (by assumption) (by decide) kw_1072 (by decide) rfl ?_
                refine pw_iload_n 1 rfl dX10_tells_122 rfl ?_
                refine pw_iaload dX10_tells_123 (by assumption) (by omega) (by omega) (fun r123 => ?_)
                rw [e92] at r123 ⊢
                refine pw_iret dX10_tells_124 rfl rfl ?_
                refine ⟨congrArg (fun z => some (vi z)) (by unfold tel; (repeat' split) <;> first | rfl | omega), rfl, ?_⟩
                rw [← em_m2]; unfold tW; (repeat' split) <;> first | rfl | (exfalso; omega)
              · skip
                exfalso; omega
            · skip
              exfalso; omega
          · skip
            exfalso; omega
        · skip
          exfalso; omega
      · skip
        refine pw_iconst dX10_tells_30 ?_
        refine pw_goto 35 (by decide) dX10_tells_31 ?_
        refine pw_istore_n 3 rfl dX10_tells_35 (by decide) ?_
        refine pw_iload_n 3 rfl dX10_tells_36 rfl ?_
        refine pw_if_le 45 (by decide) dX10_tells_37 (by omega) (fun c37 => ?_) (fun c37 => ?_)
        · skip
          exfalso; omega
        · skip
          refine pw_aload_n 0 rfl dX10_tells_40 rfl ?_
          refine pw_iload_n 3 rfl dX10_tells_41 rfl ?_
          refine pw_callV (d' := d - 1) (As := [_]) (ci := 10) dX10_tells_42 ok_X10_writes kw_1386 rfl rfl (Of.o (by assumption)) (by omega) rfl (Nat.le_of_ble_eq_true rfl) (r_writes (d - 1) (by omega) n ok mem hU 4 (by omega) (by omega)) (Nat.le_refl _) (Or.inl rfl) (fun r ok1 m1 hq => ?_)
          obtain ⟨rfl, rfl, em_m1⟩ := hq
          have hs_m1 := nSame.w mem 4
          have ht_m1 := rW_tr mem 4 ht.1
          rw [em_m1] at hs_m1 ht_m1
          refine pw_aload_n 0 rfl dX10_tells_45 rfl ?_
          refine pw_iconst dX10_tells_46 ?_
          refine pw_callV (d' := d - 1) (As := [_]) (ci := 10) dX10_tells_47 ok_X10_writes kw_1386 rfl rfl (Of.o (by assumption)) (by omega) rfl (Nat.le_of_ble_eq_true rfl) (r_writes (d - 1) (by omega) n ok m1 hU 1 (by omega) (by omega)) (Nat.le_refl _) (Or.inl rfl) (fun r ok1 m2 hq => ?_)
          obtain ⟨rfl, rfl, em_m2⟩ := hq
          have hs_m2 := nSame.w m1 1
          have ht_m2 := rW_tr m1 1 ht_m1.1
          rw [em_m2] at hs_m2 ht_m2
          have e91 := (hs_m1.tr hs_m2).1 91 (by omega) (by omega)
          have e92 := (hs_m1.tr hs_m2).1 92 (by omega) (by omega)
          refine pw_iload_n 2 rfl dX10_tells_50 rfl ?_
          refine pw_iconst dX10_tells_51 ?_
          refine pw_icmp_ne 73 (by decide) dX10_tells_52 (by omega) (by omega) (fun c52 => ?_) (fun c52 => ?_)
          · skip
            refine pw_iload_n 2 rfl dX10_tells_73 rfl ?_
            refine pw_iconst dX10_tells_74 ?_
            refine pw_icmp_ne 96 (by decide) dX10_tells_75 (by omega) (by omega) (fun c75 => ?_) (fun c75 => ?_)
            · skip
              refine pw_iload_n 2 rfl dX10_tells_96 rfl ?_
              refine pw_iconst dX10_tells_97 ?_
              refine pw_icmp_ne 118 (by decide) dX10_tells_98 (by omega) (by omega) (fun c98 => ?_) (fun c98 => ?_)
              · skip
                exfalso; omega
              · skip
                refine pw_aload_n 0 rfl dX10_tells_101 rfl ?_
                refine pw_gR 7 92 dX10_tells_102 cOk10 (by assumption) (by decide) kw_1072 (by decide) rfl ?_
                refine pw_iload_n 1 rfl dX10_tells_105 rfl ?_
                refine pw_iaload dX10_tells_106 (by assumption) (by omega) (by omega) (fun r106 => ?_)
                rw [e92] at r106 ⊢
                refine pw_if_ne 114 (by decide) dX10_tells_107 (by omega) (fun c107 => ?_) (fun c107 => ?_)
                · skip
                  refine pw_iconst dX10_tells_114 ?_
                  refine pw_goto 124 (by decide) dX10_tells_115 ?_
                  refine pw_iret dX10_tells_124 rfl rfl ?_
                  refine ⟨congrArg (fun z => some (vi z)) (by unfold tel; (repeat' split) <;> first | rfl | omega), rfl, ?_⟩
                  rw [← em_m2, ← em_m1]; unfold tW; (repeat' split) <;> first | rfl | (exfalso; omega)
                · skip
                  refine pw_iconst dX10_tells_110 ?_
                  refine pw_goto 124 (by decide) dX10_tells_111 ?_
                  refine pw_iret dX10_tells_124 rfl rfl ?_
                  refine ⟨congrArg (fun z => some (vi z)) (by unfold tel; (repeat' split) <;> first | rfl | omega), rfl, ?_⟩
                  rw [← em_m2, ← em_m1]; unfold tW; (repeat' split) <;> first | rfl | (exfalso; omega)
            · skip
              exfalso; omega
          · skip
            exfalso; omega
    · skip
      refine pw_iconst dX10_tells_21 ?_
      refine pw_goto 35 (by decide) dX10_tells_22 ?_
      refine pw_istore_n 3 rfl dX10_tells_35 (by decide) ?_
      refine pw_iload_n 3 rfl dX10_tells_36 rfl ?_
      refine pw_if_le 45 (by decide) dX10_tells_37 (by omega) (fun c37 => ?_) (fun c37 => ?_)
      · skip
        exfalso; omega
      · skip
        refine pw_aload_n 0 rfl dX10_tells_40 rfl ?_
        refine pw_iload_n 3 rfl dX10_tells_41 rfl ?_
        refine pw_callV (d' := d - 1) (As := [_]) (ci := 10) dX10_tells_42 ok_X10_writes kw_1386 rfl rfl (Of.o (by assumption)) (by omega) rfl (Nat.le_of_ble_eq_true rfl) (r_writes (d - 1) (by omega) n ok mem hU 3 (by omega) (by omega)) (Nat.le_refl _) (Or.inl rfl) (fun r ok1 m1 hq => ?_)
        obtain ⟨rfl, rfl, em_m1⟩ := hq
        have hs_m1 := nSame.w mem 3
        have ht_m1 := rW_tr mem 3 ht.1
        rw [em_m1] at hs_m1 ht_m1
        refine pw_aload_n 0 rfl dX10_tells_45 rfl ?_
        refine pw_iconst dX10_tells_46 ?_
        refine pw_callV (d' := d - 1) (As := [_]) (ci := 10) dX10_tells_47 ok_X10_writes kw_1386 rfl rfl (Of.o (by assumption)) (by omega) rfl (Nat.le_of_ble_eq_true rfl) (r_writes (d - 1) (by omega) n ok m1 hU 1 (by omega) (by omega)) (Nat.le_refl _) (Or.inl rfl) (fun r ok1 m2 hq => ?_)
        obtain ⟨rfl, rfl, em_m2⟩ := hq
        have hs_m2 := nSame.w m1 1
        have ht_m2 := rW_tr m1 1 ht_m1.1
        rw [em_m2] at hs_m2 ht_m2
        have e91 := (hs_m1.tr hs_m2).1 91 (by omega) (by omega)
        have e92 := (hs_m1.tr hs_m2).1 92 (by omega) (by omega)
        refine pw_iload_n 2 rfl dX10_tells_50 rfl ?_
        refine pw_iconst dX10_tells_51 ?_
        refine pw_icmp_ne 73 (by decide) dX10_tells_52 (by omega) (by omega) (fun c52 => ?_) (fun c52 => ?_)
        · skip
          refine pw_iload_n 2 rfl dX10_tells_73 rfl ?_
          refine pw_iconst dX10_tells_74 ?_
          refine pw_icmp_ne 96 (by decide) dX10_tells_75 (by omega) (by omega) (fun c75 => ?_) (fun c75 => ?_)
          · skip
            exfalso; omega
          · skip
            refine pw_aload_n 0 rfl dX10_tells_78 rfl ?_
            refine pw_gR 6 91 dX10_tells_79 cOk10 (by assumption) (by decide) kw_1071 (by decide) rfl ?_
            refine pw_iload_n 1 rfl dX10_tells_82 rfl ?_
            refine pw_iaload dX10_tells_83 (by assumption) (by omega) (by omega) (fun r83 => ?_)
            rw [e91] at r83 ⊢
            refine pw_iconst dX10_tells_84 ?_
            refine pw_isub dX10_tells_85 ?_
            refine pw_aload_n 0 rfl dX10_tells_86 rfl ?_
            refine pw_gR 7 92 dX10_tells_87 cOk10 (by assumption) (by decide) kw_1072 (by decide) rfl ?_
            refine pw_iload_n 1 rfl dX10_tells_90 rfl ?_
            refine pw_iaload dX10_tells_91 (by assumption) (by omega) (by omega) (fun r91 => ?_)
            rw [e92] at r91 ⊢
            refine pw_isub dX10_tells_92 ?_
            refine pw_goto 124 (by decide) dX10_tells_93 ?_
            refine pw_iret dX10_tells_124 rfl rfl ?_
            refine ⟨congrArg (fun z => some (vi z)) (by unfold tel; (repeat' split) <;> first | rfl | omega), rfl, ?_⟩
            rw [← em_m2, ← em_m1]; unfold tW; (repeat' split) <;> first | rfl | (exfalso; omega)
        · skip
          exfalso; omega
  · skip
    refine pw_iconst dX10_tells_12 ?_
    refine pw_goto 35 (by decide) dX10_tells_13 ?_
    refine pw_istore_n 3 rfl dX10_tells_35 (by decide) ?_
    refine pw_iload_n 3 rfl dX10_tells_36 rfl ?_
    refine pw_if_le 45 (by decide) dX10_tells_37 (by omega) (fun c37 => ?_) (fun c37 => ?_)
    · skip
      exfalso; omega
    · skip
      refine pw_aload_n 0 rfl dX10_tells_40 rfl ?_
      refine pw_iload_n 3 rfl dX10_tells_41 rfl ?_
      refine pw_callV (d' := d - 1) (As := [_]) (ci := 10) dX10_tells_42 ok_X10_writes kw_1386 rfl rfl (Of.o (by assumption)) (by omega) rfl (Nat.le_of_ble_eq_true rfl) (r_writes (d - 1) (by omega) n ok mem hU 2 (by omega) (by omega)) (Nat.le_refl _) (Or.inl rfl) (fun r ok1 m1 hq => ?_)
      obtain ⟨rfl, rfl, em_m1⟩ := hq
      have hs_m1 := nSame.w mem 2
      have ht_m1 := rW_tr mem 2 ht.1
      rw [em_m1] at hs_m1 ht_m1
      refine pw_aload_n 0 rfl dX10_tells_45 rfl ?_
      refine pw_iconst dX10_tells_46 ?_
      refine pw_callV (d' := d - 1) (As := [_]) (ci := 10) dX10_tells_47 ok_X10_writes kw_1386 rfl rfl (Of.o (by assumption)) (by omega) rfl (Nat.le_of_ble_eq_true rfl) (r_writes (d - 1) (by omega) n ok m1 hU 1 (by omega) (by omega)) (Nat.le_refl _) (Or.inl rfl) (fun r ok1 m2 hq => ?_)
      obtain ⟨rfl, rfl, em_m2⟩ := hq
      have hs_m2 := nSame.w m1 1
      have ht_m2 := rW_tr m1 1 ht_m1.1
      rw [em_m2] at hs_m2 ht_m2
      have e91 := (hs_m1.tr hs_m2).1 91 (by omega) (by omega)
      have e92 := (hs_m1.tr hs_m2).1 92 (by omega) (by omega)
      refine pw_iload_n 2 rfl dX10_tells_50 rfl ?_
      refine pw_iconst dX10_tells_51 ?_
      refine pw_icmp_ne 73 (by decide) dX10_tells_52 (by omega) (by omega) (fun c52 => ?_) (fun c52 => ?_)
      · skip
        exfalso; omega
      · skip
        refine pw_aload_n 0 rfl dX10_tells_55 rfl ?_
        refine pw_gR 7 92 dX10_tells_56 cOk10 (by assumption) (by decide) kw_1072 (by decide) rfl ?_
        refine pw_iload_n 1 rfl dX10_tells_59 rfl ?_
        refine pw_iaload dX10_tells_60 (by assumption) (by omega) (by omega) (fun r60 => ?_)
        rw [e92] at r60 ⊢
        refine pw_iconst dX10_tells_61 ?_
        refine pw_iadd dX10_tells_62 ?_
        refine pw_aload_n 0 rfl dX10_tells_63 rfl ?_
        refine pw_gR 6 91 dX10_tells_64 cOk10 (by assumption) (by decide) kw_1071 (by decide) rfl ?_
        refine pw_iload_n 1 rfl dX10_tells_67 rfl ?_
        refine pw_iaload dX10_tells_68 (by assumption) (by omega) (by omega) (fun r68 => ?_)
        rw [e91] at r68 ⊢
        refine pw_irem dX10_tells_69 (by omega) (by omega) ?_
        refine pw_goto 124 (by decide) dX10_tells_70 ?_
        refine pw_iret dX10_tells_124 rfl rfl ?_
        refine ⟨congrArg (fun z => some (vi z)) (by unfold tel; (repeat' split) <;> first | rfl | omega), rfl, ?_⟩
        rw [← em_m2, ← em_m1]; unfold tW; (repeat' split) <;> first | rfl | (exfalso; omega)
