/-! ===== bits ===== -/
def tb (T : Int) (i : Nat) : Bool := (Int32.ofInt T).toBitVec.getLsbD i
theorem sh_mask {i : Int} (h : 0 ≤ i ∧ i ≤ 31) : ((Int32.ofInt i &&& 31).toBitVec.smod 32).toNat = i.toNat := by
  have : i = 0 ∨ i = 1 ∨ i = 2 ∨ i = 3 ∨ i = 4 ∨ i = 5 ∨ i = 6 ∨ i = 7 ∨ i = 8 ∨ i = 9 ∨ i = 10 ∨ i = 11 ∨ i = 12 ∨ i = 13 ∨ i = 14 ∨ i = 15 ∨ i = 16 ∨ i = 17 ∨ i = 18 ∨ i = 19 ∨ i = 20 ∨ i = 21 ∨ i = 22 ∨ i = 23 ∨ i = 24 ∨ i = 25 ∨ i = 26 ∨ i = 27 ∨ i = 28 ∨ i = 29 ∨ i = 30 ∨ i = 31 := by omega
  rcases this with e | e | e | e | e | e | e | e | e | e | e | e | e | e | e | e | e | e | e | e | e | e | e | e | e | e | e | e | e | e | e | e <;> (subst e; decide)
theorem tb_and (a b : Int) (k : Nat) : tb (iAnd a b) k = (tb a k && tb b k) := by
  unfold tb iAnd; rw [Int32.ofInt_toInt, Int32.toBitVec_and, BitVec.getLsbD_and]
theorem tb_or (a b : Int) (k : Nat) : tb (iOr a b) k = (tb a k || tb b k) := by
  unfold tb iOr; rw [Int32.ofInt_toInt, Int32.toBitVec_or, BitVec.getLsbD_or]
theorem tb_not (a : Int) (k : Nat) (hk : k < 32) : tb (iXor a (-1)) k = !tb a k := by
  unfold tb iXor
  rw [Int32.ofInt_toInt, Int32.toBitVec_xor, BitVec.getLsbD_xor]
  have e : (Int32.ofInt (-1)).toBitVec = BitVec.allOnes 32 := by decide
  rw [e, BitVec.getLsbD_allOnes]; simp [hk]
theorem tb_shl (a i : Int) (hi : 0 ≤ i ∧ i ≤ 31) (k : Nat) (hk : k < 32) : tb (iShl a i) k = (decide (i.toNat ≤ k) && tb a (k - i.toNat)) := by
  unfold tb iShl
  rw [Int32.ofInt_toInt, Int32.toBitVec_shiftLeft, BitVec.shiftLeft_eq', sh_mask hi, BitVec.getLsbD_shiftLeft]
  by_cases q : k < i.toNat
  · simp [hk, q]; intro z; omega
  · simp [hk, q]; intro; omega
theorem tb_shr (a i : Int) (hi : 0 ≤ i ∧ i ≤ 31) (k : Nat) (hk : k + i.toNat < 32) : tb (iShr a i) k = tb a (k + i.toNat) := by
  unfold tb iShr
  rw [Int32.ofInt_toInt, Int32.toBitVec_shiftRight, BitVec.sshiftRight_eq', sh_mask hi, BitVec.getLsbD_sshiftRight]
  have h1 : ¬ (32 ≤ k) := by omega
  have h2 : i.toNat + k < 32 := by omega
  simp [h1, Nat.add_comm]
  intro z; omega
theorem iAnd1 (a : Int) : iAnd a 1 = if tb a 0 then 1 else 0 := by
  unfold iAnd tb
  have e : (Int32.ofInt a &&& Int32.ofInt 1) = if (Int32.ofInt a).toBitVec.getLsbD 0 then 1 else 0 := by
    apply Int32.toBitVec_inj.mp
    rw [Int32.toBitVec_and]
    have e1 : (Int32.ofInt 1).toBitVec = 1#32 := by decide
    rw [e1]
    by_cases q : (Int32.ofInt a).toBitVec.getLsbD 0 = true
    · rw [if_pos q]
      ext i hi
      have : (1 : Int32).toBitVec = 1#32 := by decide
      rw [this]
      cases i with
      | zero => simpa using q
      | succ i => simp
    · rw [if_neg q]
      ext i hi
      have : (0 : Int32).toBitVec = 0#32 := by decide
      rw [this]
      cases i with
      | zero => simpa using q
      | succ i => simp
  rw [e]; split <;> decide
theorem bit_at (T i : Int) (hi : 0 ≤ i ∧ i ≤ 31) : iAnd (iShr T i) 1 = if tb T i.toNat then 1 else 0 := by
  rw [iAnd1, tb_shr T i hi 0 (by omega), Nat.zero_add]
theorem tb_some (k : Int) (hk : 0 ≤ k ∧ k ≤ 6) (j : Nat) (hj : j < 32) : tb (iShl 1 k - 1) j = decide (j < k.toNat) := by
  have : k = 0 ∨ k = 1 ∨ k = 2 ∨ k = 3 ∨ k = 4 ∨ k = 5 ∨ k = 6 := by omega
  have e : ∀ j : Fin 32, tb (iShl 1 k - 1) j.1 = decide (j.1 < k.toNat) := by
    rcases this with e | e | e | e | e | e | e <;> (subst e; decide)
  exact e ⟨j, hj⟩
theorem tb_set (T i k B : Int) (hi : 0 ≤ i) (hk : 0 ≤ k) (hik : i + k ≤ 6) (j : Nat) (hj : j < 32) :
    tb (iOr (iAnd T (iXor (iShl (iShl 1 k - 1) i) (-1))) (iShl (iAnd B (iShl 1 k - 1)) i)) j = if i.toNat ≤ j ∧ j < i.toNat + k.toNat then tb B (j - i.toNat) else tb T j := by
  rw [tb_or, tb_and, tb_not _ _ hj, tb_shl _ _ (by omega) _ hj, tb_shl _ _ (by omega) _ hj, tb_and, tb_some k (by omega) _ (by omega)]
  by_cases q : i.toNat ≤ j
  · by_cases q2 : j < i.toNat + k.toNat
    · have q3 : j - i.toNat < k.toNat := by omega
      rw [if_pos ⟨q, q2⟩]; simp [q, q3]
    · have q3 : ¬ (j - i.toNat < k.toNat) := by omega
      rw [if_neg (fun z => q2 z.2)]; simp [q, q3]
  · rw [if_neg (fun z => q z.1)]; simp [q]
theorem tb_0 (j : Nat) : tb 0 j = false := by
  unfold tb
  have : (Int32.ofInt 0).toBitVec = 0#32 := by decide
  rw [this]; simp
theorem tb_1 (j : Nat) : tb 1 j = decide (j = 0) := by
  unfold tb
  have : (Int32.ofInt 1).toBitVec = 1#32 := by decide
  rw [this]; simp

/-! ===== the class: notes, kept, small things ===== -/
def NUp (n : Nat) (ok : pO) : Prop := Of n ok 5 2 ∧ Ar n 3 60
def nWr (m : pM) (x : Int) : pM := if 60 ≤ m 2 1 then wr m 2 1 (m 2 1 + 1) else wr (wr m 3 (m 2 1) x) 2 1 (m 2 1 + 1)
def nMt (m : pM) (f : Int) : pM := wr (wr m 2 2 (nz (m 2 2 + 1))) 2 3 f
def nEv (m : pM) : pEv → pM
  | [] => m
  | (true, x) :: l => nEv (nWr m x) l
  | (false, x) :: l => nEv (nMt m x) l
theorem nEv_app (m : pM) (a b : pEv) : nEv m (a ++ b) = nEv (nEv m a) b := by
  induction a generalizing m with
  | nil => rfl
  | cons q l ih =>
    obtain ⟨t, x⟩ := q
    cases t <;> exact ih _
theorem nWr_a (m : pM) (x : Int) (a : Nat) (h : a ≠ 2) (h2 : a ≠ 3) : nWr m x a = m a := by
  unfold nWr; split
  · exact wr_a _ _ _ h
  · rw [wr_a _ _ _ h, wr_a _ _ _ h2]
theorem nMt_a (m : pM) (x : Int) (a : Nat) (h : a ≠ 2) : nMt m x a = m a := by
  unfold nMt; rw [wr_a _ _ _ h, wr_a _ _ _ h]
theorem nEv_a (m : pM) (l : pEv) (a : Nat) (h : a ≠ 2) (h2 : a ≠ 3) : nEv m l a = m a := by
  induction l generalizing m with
  | nil => rfl
  | cons q l ih =>
    obtain ⟨t, x⟩ := q
    cases t
    · show nEv (nMt m x) l a = _; rw [ih, nMt_a _ _ _ h]
    · show nEv (nWr m x) l a = _; rw [ih, nWr_a _ _ _ h h2]
theorem nWr_1 (m : pM) (x : Int) : nWr m x 2 1 = m 2 1 + 1 := by unfold nWr; split <;> rw [wr_s]
theorem nMt_1 (m : pM) (x : Int) : nMt m x 2 1 = m 2 1 := by unfold nMt; rw [wr_k _ _ _ _ (by omega), wr_k _ _ _ _ (by omega)]
theorem nEv_1 (m : pM) (l : pEv) : m 2 1 ≤ nEv m l 2 1 ∧ nEv m l 2 1 ≤ m 2 1 + l.length := by
  induction l generalizing m with
  | nil => exact ⟨Int.le_refl _, by show m 2 1 ≤ m 2 1 + ((0 : Nat) : Int); omega⟩
  | cons q l ih =>
    obtain ⟨t, x⟩ := q
    cases t
    · have := ih (nMt m x)
      rw [nMt_1] at this
      show m 2 1 ≤ nEv (nMt m x) l 2 1 ∧ nEv (nMt m x) l 2 1 ≤ m 2 1 + ((l.length + 1 : Nat) : Int)
      omega
    · have := ih (nWr m x)
      rw [nWr_1] at this
      show m 2 1 ≤ nEv (nWr m x) l 2 1 ∧ nEv (nWr m x) l 2 1 ≤ m 2 1 + ((l.length + 1 : Nat) : Int)
      omega
/-- notes stand for the reference's -/
def NR (A m : pM) : Prop := m 2 1 = A 88 19 ∧ m 2 2 = A 88 1 ∧ m 2 3 = A 88 2 ∧ ∀ i, 0 ≤ i → i < 60 → i < A 88 19 → m 3 i = A 103 i
theorem NR_ev {A m : pM} (h : NR A m) (h0 : 0 ≤ A 88 19) (hq : A 88 3 = 0) (l : pEv) : NR (rEv A l) (nEv m l) := by
  induction l generalizing A m with
  | nil => exact h
  | cons q l ih =>
    obtain ⟨t, x⟩ := q
    cases t
    · show NR (rEv (rNotes A x) l) (nEv (nMt m x) l)
      have e : rNotes A x = wr (wr A 88 1 (nz (A 88 1 + 1))) 88 2 x := by unfold rNotes; rw [if_pos hq]
      rw [e]
      refine ih ?_ ?_ ?_
      · refine ⟨?_, ?_, ?_, fun i i1 i2 i3 => ?_⟩
        · rw [nMt_1, wr_k _ _ _ _ (by omega), wr_k _ _ _ _ (by omega)]; exact h.1
        · unfold nMt; rw [wr_k _ _ _ _ (by omega), wr_s, wr_k _ _ _ _ (by omega), wr_s, h.2.1]
        · unfold nMt; rw [wr_s, wr_s]
        · rw [nMt_a _ _ _ (by omega), wr_a _ _ _ (by omega), wr_a _ _ _ (by omega)]
          rw [wr_k _ _ _ _ (by omega), wr_k _ _ _ _ (by omega)] at i3
          exact h.2.2.2 i i1 i2 i3
      · rw [wr_k _ _ _ _ (by omega), wr_k _ _ _ _ (by omega)]; exact h0
      · rw [wr_k _ _ _ _ (by omega), wr_k _ _ _ _ (by omega)]; exact hq
    · show NR (rEv (rWrites A x) l) (nEv (nWr m x) l)
      by_cases q : 60 ≤ A 88 19
      · have e : rWrites A x = wr A 88 19 (A 88 19 + 1) := by unfold rWrites; rw [if_pos hq, if_pos q]
        rw [e]
        have e2 : nWr m x = wr m 2 1 (m 2 1 + 1) := by unfold nWr; rw [if_pos (by rw [h.1]; exact q)]
        rw [e2]
        refine ih ⟨?_, ?_, ?_, fun i i1 i2 i3 => ?_⟩ ?_ ?_
        · rw [wr_s, wr_s, h.1]
        · rw [wr_k _ _ _ _ (by omega), wr_k _ _ _ _ (by omega)]; exact h.2.1
        · rw [wr_k _ _ _ _ (by omega), wr_k _ _ _ _ (by omega)]; exact h.2.2.1
        · rw [wr_a _ _ _ (by omega), wr_a _ _ _ (by omega)]
          exact h.2.2.2 i i1 i2 (by omega)
        · rw [wr_s]; omega
        · rw [wr_k _ _ _ _ (by omega)]; exact hq
      · have e : rWrites A x = wr (wr A 103 (A 88 19) x) 88 19 (A 88 19 + 1) := by unfold rWrites; rw [if_pos hq, if_neg q]
        rw [e]
        have e2 : nWr m x = wr (wr m 3 (m 2 1) x) 2 1 (m 2 1 + 1) := by unfold nWr; rw [if_neg (by rw [h.1]; exact q)]
        rw [e2]
        refine ih ⟨?_, ?_, ?_, fun i i1 i2 i3 => ?_⟩ ?_ ?_
        · rw [wr_s, wr_s, h.1]
        · rw [wr_k _ _ _ _ (by omega), wr_a _ _ _ (by omega), wr_k _ _ _ _ (by omega), wr_a _ _ _ (by omega)]; exact h.2.1
        · rw [wr_k _ _ _ _ (by omega), wr_a _ _ _ (by omega), wr_k _ _ _ _ (by omega), wr_a _ _ _ (by omega)]; exact h.2.2.1
        · rw [wr_s] at i3
          rw [wr_a _ _ _ (show (3 : Nat) ≠ 2 by omega), wr_a _ _ _ (show (103 : Nat) ≠ 88 by omega), h.1]
          by_cases w : i = A 88 19
          · subst w; rw [wr_s, wr_s]
          · rw [wr_k _ _ _ _ w, wr_k _ _ _ _ w]; exact h.2.2.2 i i1 i2 (by omega)
        · rw [wr_s]; omega
        · rw [wr_k _ _ _ _ (by omega), wr_a _ _ _ (by omega)]; exact hq
def KUp (n : Nat) (ok : pO) (b : Nat) : Prop := Of n ok 3 (b + 16) ∧ Ar n (b + 17) 30
def kpP (m : pM) (b : Nat) (x : Int) : pM := wr (wr (wr m (b + 17) (m (b + 16) 1) x) (b + 16) 1 (kpNext (m (b + 16) 1))) (b + 16) 2 (kpHeld (m (b + 16) 2))
set_option maxHeartbeats 4000000 in
set_option maxRecDepth 100000 in
theorem n_emptyTrace (d : Nat) (hd : 0 ≤ d) (n : Nat) (ok : pO) (mem : pM) (hN : NUp n ok) : PM mi_X5_emptyTrace d [vr 2] n ok mem n (fun r ok' mem' => r = none ∧ ok = ok' ∧ wr mem 2 1 0 = mem') := by
  obtain ⟨hN5, hN3⟩ := id hN
  refine PM.of (by decide) (by decide) (Nat.le_refl _) (Nat.le_of_ble_eq_true rfl) ?_
  refine pw_aload_n 0 rfl dX5_emptyTrace_0 rfl ?_
  refine pw_iconst dX5_emptyTrace_1 ?_
  refine pw_pI 1 1 rfl dX5_emptyTrace_2 cOk5 (by assumption) (by decide) kw_103 rfl rfl (by decide) (by omega) ?_
  refine pw_vret dX5_emptyTrace_5 rfl rfl ?_
  exact ⟨rfl, rfl, rfl⟩
set_option maxHeartbeats 4000000 in
set_option maxRecDepth 100000 in
theorem n_write (d : Nat) (hd : 0 ≤ d) (n : Nat) (ok : pO) (mem : pM) (hN : NUp n ok) (x : Int) (hx : -2147483648 ≤ x ∧ x ≤ 2147483647) (ht : 0 ≤ mem 2 1 ∧ mem 2 1 ≤ 2000000000) : PM mi_X5_write d [vr 2, vi x] n ok mem n (fun r ok' mem' => r = none ∧ ok = ok' ∧ nWr mem x = mem') := by
  obtain ⟨hN5, hN3⟩ := id hN
  refine PM.of (by decide) (by decide) (Nat.le_refl _) (Nat.le_of_ble_eq_true rfl) ?_
  refine pw_aload_n 0 rfl dX5_write_0 rfl ?_
  refine pw_gI 1 1 rfl dX5_write_1 cOk5 (by assumption) (by decide) kw_103 (by decide) (fun r1 => ?_)
  refine pw_bipush dX5_write_4 (by decide) ?_
  refine pw_icmp_ge 19 (by decide) dX5_write_6 (by omega) (by omega) (fun c6 => ?_) (fun c6 => ?_)
  · skip
    refine pw_aload_n 0 rfl dX5_write_19 rfl ?_
    refine pw_dup dX5_write_20 rfl ?_
    refine pw_gI 1 1 rfl dX5_write_21 cOk5 (by assumption) (by decide) kw_103 (by decide) (fun r21 => ?_)
    refine pw_iconst dX5_write_24 ?_
    refine pw_iadd dX5_write_25 ?_
    refine pw_pI 1 1 rfl dX5_write_26 cOk5 (by assumption) (by decide) kw_103 rfl rfl (by decide) (by omega) ?_
    refine pw_vret dX5_write_29 rfl rfl ?_
    refine ⟨rfl, rfl, ?_⟩
    unfold nWr; rw [if_pos c6]
  · skip
    refine pw_aload_n 0 rfl dX5_write_9 rfl ?_
    refine pw_gR 0 3 dX5_write_10 cOk5 (by assumption) (by decide) kw_102 (by decide) rfl ?_
    refine pw_aload_n 0 rfl dX5_write_13 rfl ?_
    refine pw_gI 1 1 rfl dX5_write_14 cOk5 (by assumption) (by decide) kw_103 (by decide) (fun r14 => ?_)
    refine pw_iload_n 1 rfl dX5_write_17 rfl ?_
    refine pw_iastore dX5_write_18 (by assumption) (by omega) (by omega) (by omega) ?_
    refine pw_aload_n 0 rfl dX5_write_19 rfl ?_
    refine pw_dup dX5_write_20 rfl ?_
    refine pw_gI 1 1 rfl dX5_write_21 cOk5 (by assumption) (by decide) kw_103 (by decide) (fun r21 => ?_)
    try simp (disch := omega) only [wr_s, wr_a, wr_k] at r21 ⊢
    refine pw_iconst dX5_write_24 ?_
    refine pw_iadd dX5_write_25 ?_
    refine pw_pI 1 1 rfl dX5_write_26 cOk5 (by assumption) (by decide) kw_103 rfl rfl (by decide) (by omega) ?_
    refine pw_vret dX5_write_29 rfl rfl ?_
    refine ⟨rfl, rfl, ?_⟩
    unfold nWr; rw [if_neg c6]
set_option maxHeartbeats 4000000 in
set_option maxRecDepth 100000 in
theorem n_met (d : Nat) (hd : 0 ≤ d) (n : Nat) (ok : pO) (mem : pM) (hN : NUp n ok) (f : Int) (hf : 0 ≤ f ∧ f ≤ 100) : PM mi_X5_met d [vr 2, vi f] n ok mem n (fun r ok' mem' => r = some (vi (-10 - f)) ∧ ok = ok' ∧ nMt mem f = mem') := by
  obtain ⟨hN5, hN3⟩ := id hN
  refine PM.of (by decide) (by decide) (Nat.le_refl _) (Nat.le_of_ble_eq_true rfl) ?_
  refine pw_aload_n 0 rfl dX5_met_0 rfl ?_
  refine pw_dup dX5_met_1 rfl ?_
  refine pw_gI 2 2 rfl dX5_met_2 cOk5 (by assumption) (by decide) kw_105 (by decide) (fun r2 => ?_)
  refine pw_iconst dX5_met_5 ?_
  refine pw_iadd dX5_met_6 ?_
  refine pw_pIz 2 2 rfl dX5_met_7 cOk5 (by assumption) (by decide) kw_105 rfl rfl (by decide)  ?_
  refine pw_aload_n 0 rfl dX5_met_10 rfl ?_
  refine pw_iload_n 1 rfl dX5_met_11 rfl ?_
  refine pw_pI 3 3 rfl dX5_met_12 cOk5 (by assumption) (by decide) kw_107 rfl rfl (by decide) (by omega) ?_
  refine pw_bipush dX5_met_15 (by decide) ?_
  refine pw_iload_n 1 rfl dX5_met_17 rfl ?_
  refine pw_isub dX5_met_18 ?_
  refine pw_iret dX5_met_19 rfl rfl ?_
  exact ⟨rfl, rfl, rfl⟩
set_option maxHeartbeats 4000000 in
set_option maxRecDepth 100000 in
theorem n_tracedAt (d : Nat) (hd : 0 ≤ d) (n : Nat) (ok : pO) (mem : pM) (hN : NUp n ok) (i : Int) (hi : -2147483648 ≤ i ∧ i ≤ 2147483647) : PM mi_X5_tracedAt d [vr 2, vi i] n ok mem n (fun r ok' mem' => r = some (vi (if 0 ≤ i ∧ i < mem 2 1 ∧ i < 60 then mem 3 i else -1)) ∧ ok = ok' ∧ mem = mem') := by
  obtain ⟨hN5, hN3⟩ := id hN
  refine PM.of (by decide) (by decide) (Nat.le_refl _) (Nat.le_of_ble_eq_true rfl) ?_
  refine pw_iload_n 1 rfl dX5_tracedAt_0 rfl ?_
  refine pw_if_lt 27 (by decide) dX5_tracedAt_1 (by omega) (fun c1 => ?_) (fun c1 => ?_)
  · skip
    refine pw_iconst dX5_tracedAt_27 ?_
    refine pw_iret dX5_tracedAt_28 rfl rfl ?_
    refine ⟨congrArg (fun z => some (vi z)) ?_, rfl, rfl⟩
    first | (rw [if_pos (by omega)]) | (rw [if_neg (by omega)])
  · skip
    refine pw_iload_n 1 rfl dX5_tracedAt_4 rfl ?_
    refine pw_bipush dX5_tracedAt_5 (by decide) ?_
    refine pw_icmp_ge 27 (by decide) dX5_tracedAt_7 (by omega) (by omega) (fun c7 => ?_) (fun c7 => ?_)
    · skip
      refine pw_iconst dX5_tracedAt_27 ?_
      refine pw_iret dX5_tracedAt_28 rfl rfl ?_
      refine ⟨congrArg (fun z => some (vi z)) ?_, rfl, rfl⟩
      first | (rw [if_pos (by omega)]) | (rw [if_neg (by omega)])
    · skip
      refine pw_iload_n 1 rfl dX5_tracedAt_10 rfl ?_
      refine pw_aload_n 0 rfl dX5_tracedAt_11 rfl ?_
      refine pw_gI 1 1 rfl dX5_tracedAt_12 cOk5 (by assumption) (by decide) kw_103 (by decide) (fun r12 => ?_)
      refine pw_icmp_ge 27 (by decide) dX5_tracedAt_15 (by omega) (by omega) (fun c15 => ?_) (fun c15 => ?_)
      · skip
        refine pw_iconst dX5_tracedAt_27 ?_
        refine pw_iret dX5_tracedAt_28 rfl rfl ?_
        refine ⟨congrArg (fun z => some (vi z)) ?_, rfl, rfl⟩
        first | (rw [if_pos (by omega)]) | (rw [if_neg (by omega)])
      · skip
        refine pw_aload_n 0 rfl dX5_tracedAt_18 rfl ?_
        refine pw_gR 0 3 dX5_tracedAt_19 cOk5 (by assumption) (by decide) kw_102 (by decide) rfl ?_
        refine pw_iload_n 1 rfl dX5_tracedAt_22 rfl ?_
        refine pw_iaload dX5_tracedAt_23 (by assumption) (by omega) (by omega) (fun r23 => ?_)
        refine pw_goto 28 (by decide) dX5_tracedAt_24 ?_
        refine pw_iret dX5_tracedAt_28 rfl rfl ?_
        refine ⟨congrArg (fun z => some (vi z)) ?_, rfl, rfl⟩
        first | (rw [if_pos (by omega)]) | (rw [if_neg (by omega)])
def tlR (k : Int) (i : Nat) : List Int := if i = 0 then [sTel k, 1] else if i = 1 then [1] else []
theorem tlR_0 {k : Int} (h : 0 ≤ k ∧ k ≤ 5) : tW k = if sTel k = 1 then tlR k 1 else tlR k 0 := by
  have : k = 0 ∨ k = 1 ∨ k = 2 ∨ k = 3 ∨ k = 4 ∨ k = 5 := by omega
  rcases this with e | e | e | e | e | e <;> (subst e; decide)
set_option maxHeartbeats 4000000 in
set_option maxRecDepth 100000 in
theorem n_writeTelling (d : Nat) (hd : 0 ≤ d) (n : Nat) (ok : pO) (mem : pM) (hN : NUp n ok) (k : Int) (hk : 0 ≤ k ∧ k ≤ 5) (ht : 0 ≤ mem 2 1 ∧ mem 2 1 ≤ 1000000000) : PM mi_X5_writeTelling d [vr 2, vi k] n ok mem n (fun r ok' mem' => r = none ∧ ok = ok' ∧ nEv mem (evW (tW k)) = mem') := by
  obtain ⟨hN5, hN3⟩ := id hN
  refine PM.of (by decide) (by decide) (Nat.le_refl _) (Nat.le_of_ble_eq_true rfl) ?_
  refine pw_getTel dX5_writeTelling_0 (Or.inr ⟨_, kw_679⟩) ?_
  refine pw_iload_n 1 rfl dX5_writeTelling_3 rfl ?_
  refine pw_telld dX5_writeTelling_4 (by omega) (by omega) ?_
  have hst : sTel k = 1 ∨ sTel k = 2 ∨ sTel k = 3 ∨ sTel k = 4 := by unfold sTel; (repeat' split) <;> omega
  refine pw_istore_n 2 rfl dX5_writeTelling_5 (by decide) ?_
  refine pw_iload_n 2 rfl dX5_writeTelling_6 rfl ?_
  refine pw_iconst dX5_writeTelling_7 ?_
  refine pw_icmp_ne 15 (by decide) dX5_writeTelling_8 (by omega) (by omega) (fun c8 => ?_) (fun c8 => ?_)
  · skip
    refine pw_iconst dX5_writeTelling_15 ?_
    refine pw_istore_n 3 rfl dX5_writeTelling_16 (by decide) ?_
    have lp17 : ∀ (kz : Nat) (i : Nat) (m1 : pM), 2 - (i : Int) < (kz : Int) → (i ≤ 2) → (nEv mem (evW (tW k)) = nEv m1 (evW (tlR k i))) → (0 ≤ m1 2 1 ∧ m1 2 1 ≤ mem 2 1 + i) → PW mi_X5_writeTelling d n n (fun r ok' mem' => r = none ∧ ok = ok' ∧ nEv mem (evW (tW k)) = mem') 17 [(0, vr 2), (1, vi k), (2, vi (sTel k)), (3, vi (i : Int))] [] n ok m1 := by
      intro kz
      induction kz with
      | zero =>
        intro i m1 hk h1 h2 h3
        exact absurd hk (by omega)
      | succ kz ih =>
        intro i m1 hk h1 h2 h3
        refine pw_iload_n 3 rfl dX5_writeTelling_17 rfl ?_
        refine pw_iconst dX5_writeTelling_18 ?_
        refine pw_icmp_ge 65 (by decide) dX5_writeTelling_19 (by omega) (by omega) (fun c19 => ?_) (fun c19 => ?_)
        · skip
          refine pw_vret dX5_writeTelling_65 rfl rfl ?_
          have e2 : i = 2 := by omega
          subst e2
          exact ⟨rfl, rfl, h2⟩
        · skip
          refine pw_aload_n 0 rfl dX5_writeTelling_22 rfl ?_
          refine pw_gI 1 1 rfl dX5_writeTelling_23 cOk5 (by assumption) (by decide) kw_103 (by decide) (fun r23 => ?_)
          try simp (disch := omega) only [wr_s, wr_a, wr_k] at r23 ⊢
          refine pw_bipush dX5_writeTelling_26 (by decide) ?_
          refine pw_icmp_ge 49 (by decide) dX5_writeTelling_28 (by omega) (by omega) (fun c28 => ?_) (fun c28 => ?_)
          · skip
            refine pw_aload_n 0 rfl dX5_writeTelling_49 rfl ?_
            refine pw_dup dX5_writeTelling_50 rfl ?_
            refine pw_gI 1 1 rfl dX5_writeTelling_51 cOk5 (by assumption) (by decide) kw_103 (by decide) (fun r51 => ?_)
            try simp (disch := omega) only [wr_s, wr_a, wr_k] at r51 ⊢
            refine pw_iconst dX5_writeTelling_54 ?_
            refine pw_iadd dX5_writeTelling_55 ?_
            refine pw_pI 1 1 rfl dX5_writeTelling_56 cOk5 (by assumption) (by decide) kw_103 rfl rfl (by decide) (by omega) ?_
            refine pw_iinc dX5_writeTelling_59 rfl (by decide) ?_
            refine pw_goto 17 (by decide) dX5_writeTelling_62 ?_
            have hw : nWr m1 (if i = 0 then sTel k else 1) = wr m1 2 1 (m1 2 1 + 1) := by unfold nWr; rw [if_pos c28]
            have hR : nEv m1 (evW (tlR k i)) = nEv (nWr m1 (if i = 0 then sTel k else 1)) (evW (tlR k (i + 1))) := by
              have : i = 0 ∨ i = 1 := by omega
              rcases this with e | e <;> (subst e; rfl)
            exact pw_locs _ rfl (ih (i + 1) _ (by omega) (by omega) (by rw [h2, hR, hw]) (by rw [wr_s]; omega))
          · skip
            refine pw_aload_n 0 rfl dX5_writeTelling_31 rfl ?_
            refine pw_gR 0 3 dX5_writeTelling_32 cOk5 (by assumption) (by decide) kw_102 (by decide) rfl ?_
            refine pw_aload_n 0 rfl dX5_writeTelling_35 rfl ?_
            refine pw_gI 1 1 rfl dX5_writeTelling_36 cOk5 (by assumption) (by decide) kw_103 (by decide) (fun r36 => ?_)
            try simp (disch := omega) only [wr_s, wr_a, wr_k] at r36 ⊢
            refine pw_iload_n 3 rfl dX5_writeTelling_39 rfl ?_
            refine pw_if_ne 47 (by decide) dX5_writeTelling_40 (by omega) (fun c40 => ?_) (fun c40 => ?_)
            · skip
              refine pw_iconst dX5_writeTelling_47 ?_
              refine pw_iastore dX5_writeTelling_48 (by assumption) (by omega) (by omega) (by omega) ?_
              refine pw_aload_n 0 rfl dX5_writeTelling_49 rfl ?_
              refine pw_dup dX5_writeTelling_50 rfl ?_
              refine pw_gI 1 1 rfl dX5_writeTelling_51 cOk5 (by assumption) (by decide) kw_103 (by decide) (fun r51 => ?_)
              try simp (disch := omega) only [wr_s, wr_a, wr_k] at r51 ⊢
              refine pw_iconst dX5_writeTelling_54 ?_
              refine pw_iadd dX5_writeTelling_55 ?_
              refine pw_pI 1 1 rfl dX5_writeTelling_56 cOk5 (by assumption) (by decide) kw_103 rfl rfl (by decide) (by omega) ?_
              refine pw_iinc dX5_writeTelling_59 rfl (by decide) ?_
              refine pw_goto 17 (by decide) dX5_writeTelling_62 ?_
              have hw : nWr m1 (if i = 0 then sTel k else 1) = wr (wr m1 3 (m1 2 1) 1) 2 1 (m1 2 1 + 1) := by unfold nWr; rw [if_neg c28, if_neg (by omega)]
              have hR : nEv m1 (evW (tlR k i)) = nEv (nWr m1 (if i = 0 then sTel k else 1)) (evW (tlR k (i + 1))) := by
                have : i = 0 ∨ i = 1 := by omega
                rcases this with e | e <;> (subst e; rfl)
              exact pw_locs _ rfl (ih (i + 1) _ (by omega) (by omega) (by rw [h2, hR, hw]) (by rw [wr_s]; omega))
            · skip
              refine pw_iload_n 2 rfl dX5_writeTelling_43 rfl ?_
              refine pw_goto 48 (by decide) dX5_writeTelling_44 ?_
              refine pw_iastore dX5_writeTelling_48 (by assumption) (by omega) (by omega) (by omega) ?_
              refine pw_aload_n 0 rfl dX5_writeTelling_49 rfl ?_
              refine pw_dup dX5_writeTelling_50 rfl ?_
              refine pw_gI 1 1 rfl dX5_writeTelling_51 cOk5 (by assumption) (by decide) kw_103 (by decide) (fun r51 => ?_)
              try simp (disch := omega) only [wr_s, wr_a, wr_k] at r51 ⊢
              refine pw_iconst dX5_writeTelling_54 ?_
              refine pw_iadd dX5_writeTelling_55 ?_
              refine pw_pI 1 1 rfl dX5_writeTelling_56 cOk5 (by assumption) (by decide) kw_103 rfl rfl (by decide) (by omega) ?_
              refine pw_iinc dX5_writeTelling_59 rfl (by decide) ?_
              refine pw_goto 17 (by decide) dX5_writeTelling_62 ?_
              have hw : nWr m1 (if i = 0 then sTel k else 1) = wr (wr m1 3 (m1 2 1) (sTel k)) 2 1 (m1 2 1 + 1) := by unfold nWr; rw [if_neg c28, if_pos (by omega)]
              have hR : nEv m1 (evW (tlR k i)) = nEv (nWr m1 (if i = 0 then sTel k else 1)) (evW (tlR k (i + 1))) := by
                have : i = 0 ∨ i = 1 := by omega
                rcases this with e | e <;> (subst e; rfl)
              exact pw_locs _ rfl (ih (i + 1) _ (by omega) (by omega) (by rw [h2, hR, hw]) (by rw [wr_s]; omega))
    exact pw_locs _ rfl (lp17 3 0 mem (by omega) (by omega) (by rw [tlR_0 hk, if_neg c8]) (by omega))
  · skip
    refine pw_iconst dX5_writeTelling_11 ?_
    refine pw_goto 16 (by decide) dX5_writeTelling_12 ?_
    refine pw_istore_n 3 rfl dX5_writeTelling_16 (by decide) ?_
    have lp17 : ∀ (kz : Nat) (i : Nat) (m1 : pM), 2 - (i : Int) < (kz : Int) → (i ≤ 2) → (nEv mem (evW (tW k)) = nEv m1 (evW (tlR k i))) → (0 ≤ m1 2 1 ∧ m1 2 1 ≤ mem 2 1 + i) → PW mi_X5_writeTelling d n n (fun r ok' mem' => r = none ∧ ok = ok' ∧ nEv mem (evW (tW k)) = mem') 17 [(0, vr 2), (1, vi k), (2, vi (sTel k)), (3, vi (i : Int))] [] n ok m1 := by
      intro kz
      induction kz with
      | zero =>
        intro i m1 hk h1 h2 h3
        exact absurd hk (by omega)
      | succ kz ih =>
        intro i m1 hk h1 h2 h3
        refine pw_iload_n 3 rfl dX5_writeTelling_17 rfl ?_
        refine pw_iconst dX5_writeTelling_18 ?_
        refine pw_icmp_ge 65 (by decide) dX5_writeTelling_19 (by omega) (by omega) (fun c19 => ?_) (fun c19 => ?_)
        · skip
          refine pw_vret dX5_writeTelling_65 rfl rfl ?_
          have e2 : i = 2 := by omega
          subst e2
          exact ⟨rfl, rfl, h2⟩
        · skip
          refine pw_aload_n 0 rfl dX5_writeTelling_22 rfl ?_
          refine pw_gI 1 1 rfl dX5_writeTelling_23 cOk5 (by assumption) (by decide) kw_103 (by decide) (fun r23 => ?_)
          try simp (disch := omega) only [wr_s, wr_a, wr_k] at r23 ⊢
          refine pw_bipush dX5_writeTelling_26 (by decide) ?_
          refine pw_icmp_ge 49 (by decide) dX5_writeTelling_28 (by omega) (by omega) (fun c28 => ?_) (fun c28 => ?_)
          · skip
            refine pw_aload_n 0 rfl dX5_writeTelling_49 rfl ?_
            refine pw_dup dX5_writeTelling_50 rfl ?_
            refine pw_gI 1 1 rfl dX5_writeTelling_51 cOk5 (by assumption) (by decide) kw_103 (by decide) (fun r51 => ?_)
            try simp (disch := omega) only [wr_s, wr_a, wr_k] at r51 ⊢
            refine pw_iconst dX5_writeTelling_54 ?_
            refine pw_iadd dX5_writeTelling_55 ?_
            refine pw_pI 1 1 rfl dX5_writeTelling_56 cOk5 (by assumption) (by decide) kw_103 rfl rfl (by decide) (by omega) ?_
            refine pw_iinc dX5_writeTelling_59 rfl (by decide) ?_
            refine pw_goto 17 (by decide) dX5_writeTelling_62 ?_
            have hw : nWr m1 (if i = 0 then sTel k else 1) = wr m1 2 1 (m1 2 1 + 1) := by unfold nWr; rw [if_pos c28]
            have hR : nEv m1 (evW (tlR k i)) = nEv (nWr m1 (if i = 0 then sTel k else 1)) (evW (tlR k (i + 1))) := by
              have : i = 0 ∨ i = 1 := by omega
              rcases this with e | e <;> (subst e; rfl)
            exact pw_locs _ rfl (ih (i + 1) _ (by omega) (by omega) (by rw [h2, hR, hw]) (by rw [wr_s]; omega))
          · skip
            refine pw_aload_n 0 rfl dX5_writeTelling_31 rfl ?_
            refine pw_gR 0 3 dX5_writeTelling_32 cOk5 (by assumption) (by decide) kw_102 (by decide) rfl ?_
            refine pw_aload_n 0 rfl dX5_writeTelling_35 rfl ?_
            refine pw_gI 1 1 rfl dX5_writeTelling_36 cOk5 (by assumption) (by decide) kw_103 (by decide) (fun r36 => ?_)
            try simp (disch := omega) only [wr_s, wr_a, wr_k] at r36 ⊢
            refine pw_iload_n 3 rfl dX5_writeTelling_39 rfl ?_
            refine pw_if_ne 47 (by decide) dX5_writeTelling_40 (by omega) (fun c40 => ?_) (fun c40 => ?_)
            · skip
              refine pw_iconst dX5_writeTelling_47 ?_
              refine pw_iastore dX5_writeTelling_48 (by assumption) (by omega) (by omega) (by omega) ?_
              refine pw_aload_n 0 rfl dX5_writeTelling_49 rfl ?_
              refine pw_dup dX5_writeTelling_50 rfl ?_
              refine pw_gI 1 1 rfl dX5_writeTelling_51 cOk5 (by assumption) (by decide) kw_103 (by decide) (fun r51 => ?_)
              try simp (disch := omega) only [wr_s, wr_a, wr_k] at r51 ⊢
              refine pw_iconst dX5_writeTelling_54 ?_
              refine pw_iadd dX5_writeTelling_55 ?_
              refine pw_pI 1 1 rfl dX5_writeTelling_56 cOk5 (by assumption) (by decide) kw_103 rfl rfl (by decide) (by omega) ?_
              refine pw_iinc dX5_writeTelling_59 rfl (by decide) ?_
              refine pw_goto 17 (by decide) dX5_writeTelling_62 ?_
              have hw : nWr m1 (if i = 0 then sTel k else 1) = wr (wr m1 3 (m1 2 1) 1) 2 1 (m1 2 1 + 1) := by unfold nWr; rw [if_neg c28, if_neg (by omega)]
              have hR : nEv m1 (evW (tlR k i)) = nEv (nWr m1 (if i = 0 then sTel k else 1)) (evW (tlR k (i + 1))) := by
                have : i = 0 ∨ i = 1 := by omega
                rcases this with e | e <;> (subst e; rfl)
              exact pw_locs _ rfl (ih (i + 1) _ (by omega) (by omega) (by rw [h2, hR, hw]) (by rw [wr_s]; omega))
            · skip
              refine pw_iload_n 2 rfl dX5_writeTelling_43 rfl ?_
              refine pw_goto 48 (by decide) dX5_writeTelling_44 ?_
              refine pw_iastore dX5_writeTelling_48 (by assumption) (by omega) (by omega) (by omega) ?_
              refine pw_aload_n 0 rfl dX5_writeTelling_49 rfl ?_
              refine pw_dup dX5_writeTelling_50 rfl ?_
              refine pw_gI 1 1 rfl dX5_writeTelling_51 cOk5 (by assumption) (by decide) kw_103 (by decide) (fun r51 => ?_)
              try simp (disch := omega) only [wr_s, wr_a, wr_k] at r51 ⊢
              refine pw_iconst dX5_writeTelling_54 ?_
              refine pw_iadd dX5_writeTelling_55 ?_
              refine pw_pI 1 1 rfl dX5_writeTelling_56 cOk5 (by assumption) (by decide) kw_103 rfl rfl (by decide) (by omega) ?_
              refine pw_iinc dX5_writeTelling_59 rfl (by decide) ?_
              refine pw_goto 17 (by decide) dX5_writeTelling_62 ?_
              have hw : nWr m1 (if i = 0 then sTel k else 1) = wr (wr m1 3 (m1 2 1) (sTel k)) 2 1 (m1 2 1 + 1) := by unfold nWr; rw [if_neg c28, if_pos (by omega)]
              have hR : nEv m1 (evW (tlR k i)) = nEv (nWr m1 (if i = 0 then sTel k else 1)) (evW (tlR k (i + 1))) := by
                have : i = 0 ∨ i = 1 := by omega
                rcases this with e | e <;> (subst e; rfl)
              exact pw_locs _ rfl (ih (i + 1) _ (by omega) (by omega) (by rw [h2, hR, hw]) (by rw [wr_s]; omega))
    exact pw_locs _ rfl (lp17 3 1 mem (by omega) (by omega) (by rw [tlR_0 hk, if_pos (by omega)]) (by omega))
set_option maxHeartbeats 4000000 in
set_option maxRecDepth 100000 in
theorem k_push (d : Nat) (hd : 1 ≤ d) (n : Nat) (ok : pO) (mem : pM) (b : Nat) (hK : KUp n ok b) (x : Int) (hx : -2147483648 ≤ x ∧ x ≤ 2147483647) (h1 : 0 ≤ mem (b + 16) 1 ∧ mem (b + 16) 1 < 30) (h2 : 0 ≤ mem (b + 16) 2 ∧ mem (b + 16) 2 ≤ 30) : PM mi_X3_push d [vr (b + 16), vi x] n ok mem n (fun r ok' mem' => r = none ∧ ok = ok' ∧ kpP mem b x = mem') := by
  obtain ⟨hK3, hKA⟩ := id hK
  refine PM.of (by decide) (by decide) (Nat.le_refl _) (Nat.le_of_ble_eq_true rfl) ?_
  refine pw_aload_n 0 rfl dX3_push_0 rfl ?_
  refine pw_gR 0 (b + 17) dX3_push_1 cOk3 (by assumption) (by decide) kw_178 (by decide) rfl ?_
  refine pw_aload_n 0 rfl dX3_push_4 rfl ?_
  refine pw_gI 1 1 rfl dX3_push_5 cOk3 (by assumption) (by decide) kw_179 (by decide) (fun r5 => ?_)
  refine pw_iload_n 1 rfl dX3_push_8 rfl ?_
  refine pw_iastore dX3_push_9 (by assumption) (by omega) (by omega) (by omega) ?_
  refine pw_aload_n 0 rfl dX3_push_10 rfl ?_
  refine pw_aload_n 0 rfl dX3_push_11 rfl ?_
  refine pw_gI 1 1 rfl dX3_push_12 cOk3 (by assumption) (by decide) kw_179 (by decide) (fun r12 => ?_)
  try simp (disch := omega) only [wr_s, wr_a, wr_k] at r12 ⊢
  refine pw_iconst dX3_push_15 ?_
  refine pw_iadd dX3_push_16 ?_
  refine pw_bipush dX3_push_17 (by decide) ?_
  refine pw_icmp_ge 31 (by decide) dX3_push_19 (by omega) (by omega) (fun c19 => ?_) (fun c19 => ?_)
  · skip
    refine pw_iconst dX3_push_31 ?_
    refine pw_pI 1 1 rfl dX3_push_32 cOk3 (by assumption) (by decide) kw_179 rfl rfl (by decide) (by omega) ?_
    refine pw_aload_n 0 rfl dX3_push_35 rfl ?_
    refine pw_aload_n 0 rfl dX3_push_36 rfl ?_
    refine pw_gI 2 2 rfl dX3_push_37 cOk3 (by assumption) (by decide) kw_180 (by decide) (fun r37 => ?_)
    try simp (disch := omega) only [wr_s, wr_a, wr_k] at r37 ⊢
    refine pw_iconst dX3_push_40 ?_
    refine pw_iadd dX3_push_41 ?_
    refine pw_bipush dX3_push_42 (by decide) ?_
    refine pw_min dX3_push_44 kw_812 kw_813 kw_87 kw_814 (Nat.le_of_ble_eq_true rfl) (by omega) (by omega) (by omega) ?_
    refine pw_pI 2 2 rfl dX3_push_47 cOk3 (by assumption) (by decide) kw_180 rfl rfl (by decide) (by split <;> omega) ?_
    refine pw_vret dX3_push_50 rfl rfl ?_
    refine ⟨rfl, rfl, ?_⟩
    simp only [kpP, kpNext, kpHeld, c19, if_true, if_false]
  · skip
    refine pw_aload_n 0 rfl dX3_push_22 rfl ?_
    refine pw_gI 1 1 rfl dX3_push_23 cOk3 (by assumption) (by decide) kw_179 (by decide) (fun r23 => ?_)
    try simp (disch := omega) only [wr_s, wr_a, wr_k] at r23 ⊢
    refine pw_iconst dX3_push_26 ?_
    refine pw_iadd dX3_push_27 ?_
    refine pw_goto 32 (by decide) dX3_push_28 ?_
    refine pw_pI 1 1 rfl dX3_push_32 cOk3 (by assumption) (by decide) kw_179 rfl rfl (by decide) (by omega) ?_
    refine pw_aload_n 0 rfl dX3_push_35 rfl ?_
    refine pw_aload_n 0 rfl dX3_push_36 rfl ?_
    refine pw_gI 2 2 rfl dX3_push_37 cOk3 (by assumption) (by decide) kw_180 (by decide) (fun r37 => ?_)
    try simp (disch := omega) only [wr_s, wr_a, wr_k] at r37 ⊢
    refine pw_iconst dX3_push_40 ?_
    refine pw_iadd dX3_push_41 ?_
    refine pw_bipush dX3_push_42 (by decide) ?_
    refine pw_min dX3_push_44 kw_812 kw_813 kw_87 kw_814 (Nat.le_of_ble_eq_true rfl) (by omega) (by omega) (by omega) ?_
    refine pw_pI 2 2 rfl dX3_push_47 cOk3 (by assumption) (by decide) kw_180 rfl rfl (by decide) (by split <;> omega) ?_
    refine pw_vret dX3_push_50 rfl rfl ?_
    refine ⟨rfl, rfl, ?_⟩
    simp only [kpP, kpNext, kpHeld, c19, if_true, if_false]
set_option maxHeartbeats 4000000 in
set_option maxRecDepth 100000 in
theorem k_letGo (d : Nat) (hd : 0 ≤ d) (n : Nat) (ok : pO) (mem : pM) (b : Nat) (hK : KUp n ok b) : PM mi_X3_letGo d [vr (b + 16)] n ok mem n (fun r ok' mem' => r = none ∧ ok = ok' ∧ wr mem (b + 16) 2 0 = mem') := by
  obtain ⟨hK3, hKA⟩ := id hK
  refine PM.of (by decide) (by decide) (Nat.le_refl _) (Nat.le_of_ble_eq_true rfl) ?_
  refine pw_aload_n 0 rfl dX3_letGo_0 rfl ?_
  refine pw_iconst dX3_letGo_1 ?_
  refine pw_pI 2 2 rfl dX3_letGo_2 cOk3 (by assumption) (by decide) kw_180 rfl rfl (by decide) (by omega) ?_
  refine pw_vret dX3_letGo_5 rfl rfl ?_
  exact ⟨rfl, rfl, rfl⟩
def kpB (x : Int) : Int := if x ≤ 0 then 29 else x - 1
def kpO (m : pM) (b : Nat) : pM := wr (wr m (b + 16) 2 (m (b + 16) 2 - 1)) (b + 16) 1 (kpB (m (b + 16) 1))
set_option maxHeartbeats 4000000 in
set_option maxRecDepth 100000 in
theorem k_pop (d : Nat) (hd : 0 ≤ d) (n : Nat) (ok : pO) (mem : pM) (b : Nat) (hK : KUp n ok b) (h1 : 0 ≤ mem (b + 16) 1 ∧ mem (b + 16) 1 < 30) (h2 : 1 ≤ mem (b + 16) 2 ∧ mem (b + 16) 2 ≤ 30) : PM mi_X3_pop d [vr (b + 16)] n ok mem n (fun r ok' mem' => r = some (vi (mem (b + 17) (kpB (mem (b + 16) 1)))) ∧ ok = ok' ∧ kpO mem b = mem') := by
  obtain ⟨hK3, hKA⟩ := id hK
  refine PM.of (by decide) (by decide) (Nat.le_refl _) (Nat.le_of_ble_eq_true rfl) ?_
  refine pw_aload_n 0 rfl dX3_pop_0 rfl ?_
  refine pw_gI 2 2 rfl dX3_pop_1 cOk3 (by assumption) (by decide) kw_180 (by decide) (fun r1 => ?_)
  refine pw_if_ne 9 (by decide) dX3_pop_4 (by omega) (fun c4 => ?_) (fun c4 => ?_)
  · skip
    refine pw_aload_n 0 rfl dX3_pop_9 rfl ?_
    refine pw_dup dX3_pop_10 rfl ?_
    refine pw_gI 2 2 rfl dX3_pop_11 cOk3 (by assumption) (by decide) kw_180 (by decide) (fun r11 => ?_)
    refine pw_iconst dX3_pop_14 ?_
    refine pw_isub dX3_pop_15 ?_
    refine pw_pI 2 2 rfl dX3_pop_16 cOk3 (by assumption) (by decide) kw_180 rfl rfl (by decide) (by omega) ?_
    refine pw_aload_n 0 rfl dX3_pop_19 rfl ?_
    refine pw_aload_n 0 rfl dX3_pop_20 rfl ?_
    refine pw_gI 1 1 rfl dX3_pop_21 cOk3 (by assumption) (by decide) kw_179 (by decide) (fun r21 => ?_)
    try simp (disch := omega) only [wr_s, wr_a, wr_k] at r21 ⊢
    refine pw_if_le 36 (by decide) dX3_pop_24 (by omega) (fun c24 => ?_) (fun c24 => ?_)
    · skip
      refine pw_bipush dX3_pop_36 (by decide) ?_
      refine pw_pI 1 1 rfl dX3_pop_38 cOk3 (by assumption) (by decide) kw_179 rfl rfl (by decide) (by omega) ?_
      refine pw_aload_n 0 rfl dX3_pop_41 rfl ?_
      refine pw_gR 0 (b + 17) dX3_pop_42 cOk3 (by assumption) (by decide) kw_178 (by decide) rfl ?_
      refine pw_aload_n 0 rfl dX3_pop_45 rfl ?_
      refine pw_gI 1 1 rfl dX3_pop_46 cOk3 (by assumption) (by decide) kw_179 (by decide) (fun r46 => ?_)
      try simp (disch := omega) only [wr_s, wr_a, wr_k] at r46 ⊢
      refine pw_iaload dX3_pop_49 (by assumption) (by omega) (by omega) (fun r49 => ?_)
      try simp (disch := omega) only [wr_s, wr_a, wr_k] at r49 ⊢
      refine pw_iret dX3_pop_50 rfl rfl ?_
      have e9 : kpB (mem (b + 16) 1) = 29 := if_pos c24
      unfold kpO; rw [e9]; exact ⟨rfl, rfl, rfl⟩
    · skip
      refine pw_aload_n 0 rfl dX3_pop_27 rfl ?_
      refine pw_gI 1 1 rfl dX3_pop_28 cOk3 (by assumption) (by decide) kw_179 (by decide) (fun r28 => ?_)
      try simp (disch := omega) only [wr_s, wr_a, wr_k] at r28 ⊢
      refine pw_iconst dX3_pop_31 ?_
      refine pw_isub dX3_pop_32 ?_
      refine pw_goto 38 (by decide) dX3_pop_33 ?_
      refine pw_pI 1 1 rfl dX3_pop_38 cOk3 (by assumption) (by decide) kw_179 rfl rfl (by decide) (by omega) ?_
      refine pw_aload_n 0 rfl dX3_pop_41 rfl ?_
      refine pw_gR 0 (b + 17) dX3_pop_42 cOk3 (by assumption) (by decide) kw_178 (by decide) rfl ?_
      refine pw_aload_n 0 rfl dX3_pop_45 rfl ?_
      refine pw_gI 1 1 rfl dX3_pop_46 cOk3 (by assumption) (by decide) kw_179 (by decide) (fun r46 => ?_)
      try simp (disch := omega) only [wr_s, wr_a, wr_k] at r46 ⊢
      refine pw_iaload dX3_pop_49 (by assumption) (by omega) (by omega) (fun r49 => ?_)
      try simp (disch := omega) only [wr_s, wr_a, wr_k] at r49 ⊢
      refine pw_iret dX3_pop_50 rfl rfl ?_
      have e9 : kpB (mem (b + 16) 1) = mem (b + 16) 1 - 1 := if_neg c24
      unfold kpO; rw [e9]; exact ⟨rfl, rfl, rfl⟩
  · skip
    exfalso; omega
def kpAll (m : pM) (b : Nat) : Nat → pM
  | 0 => m
  | k + 1 => kpP (kpAll m b k) b (m 87 k)
theorem kpP_i {m : pM} {b : Nat} (x : Int) (h : (0 ≤ m (b + 16) 1 ∧ m (b + 16) 1 < 30) ∧ (0 ≤ m (b + 16) 2 ∧ m (b + 16) 2 ≤ 30)) : (0 ≤ kpP m b x (b + 16) 1 ∧ kpP m b x (b + 16) 1 < 30) ∧ (0 ≤ kpP m b x (b + 16) 2 ∧ kpP m b x (b + 16) 2 ≤ 30) := by
  unfold kpP
  rw [wr_s, wr_k _ _ _ _ (by omega), wr_s]
  unfold kpNext kpHeld
  constructor <;> split <;> omega
theorem kpP_a (m : pM) (b : Nat) (x : Int) (a : Nat) (h1 : a ≠ b + 16) (h2 : a ≠ b + 17) : kpP m b x a = m a := by
  unfold kpP; rw [wr_a _ _ _ h1, wr_a _ _ _ h1, wr_a _ _ _ h2]
theorem kpAll_i {m : pM} {b : Nat} (hb : b ≤ 59) (h : (0 ≤ m (b + 16) 1 ∧ m (b + 16) 1 < 30) ∧ (0 ≤ m (b + 16) 2 ∧ m (b + 16) 2 ≤ 30)) (k : Nat) : ((0 ≤ kpAll m b k (b + 16) 1 ∧ kpAll m b k (b + 16) 1 < 30) ∧ (0 ≤ kpAll m b k (b + 16) 2 ∧ kpAll m b k (b + 16) 2 ≤ 30)) ∧ ∀ a, a ≠ b + 16 → a ≠ b + 17 → kpAll m b k a = m a := by
  induction k with
  | zero => exact ⟨h, fun _ _ _ => rfl⟩
  | succ k ih => exact ⟨kpP_i _ ih.1, fun a h1 h2 => by show kpP _ _ _ a = _; rw [kpP_a _ _ _ _ h1 h2]; exact ih.2 a h1 h2⟩
set_option maxHeartbeats 4000000 in
set_option maxRecDepth 100000 in
theorem k_pushAll (d : Nat) (hd : 2 ≤ d) (n : Nat) (ok : pO) (mem : pM) (b : Nat) (hK : KUp n ok b) (hb : b ≤ 59) (hR : Ar n 87 40) (k : Int) (hk : 0 ≤ k ∧ k ≤ 40) (h1 : (0 ≤ mem (b + 16) 1 ∧ mem (b + 16) 1 < 30) ∧ (0 ≤ mem (b + 16) 2 ∧ mem (b + 16) 2 ≤ 30)) : PM mi_X3_pushAll d [vr (b + 16), vr 87, vi k] n ok mem n (fun r ok' mem' => r = none ∧ ok = ok' ∧ kpAll mem b k.toNat = mem') := by
  obtain ⟨hK3, hKA⟩ := id hK
  refine PM.of (by decide) (by decide) (Nat.le_refl _) (Nat.le_of_ble_eq_true rfl) ?_
  refine pw_iconst dX3_pushAll_0 ?_
  refine pw_istore_n 3 rfl dX3_pushAll_1 (by decide) ?_
  have lp2 : ∀ (kz : Nat) (i : Nat) (m1 : pM), k - (i : Int) < (kz : Int) → ((i : Int) ≤ k) → (kpAll mem b i = m1) → PW mi_X3_pushAll d n n (fun r ok' mem' => r = none ∧ ok = ok' ∧ kpAll mem b k.toNat = mem') 2 [(0, vr (b + 16)), (1, vr 87), (2, vi k), (3, vi (i : Int))] [] n ok m1 := by
    intro kz
    induction kz with
    | zero =>
      intro i m1 hk h3 h4
      exact absurd hk (by omega)
    | succ kz ih =>
      intro i m1 hk h3 h4
      have hi := kpAll_i hb h1 i
      rw [h4] at hi
      have g87 : m1 87 = mem 87 := hi.2 87 (by omega) (by omega)
      refine pw_iload_n 3 rfl dX3_pushAll_2 rfl ?_
      refine pw_iload_n 2 rfl dX3_pushAll_3 rfl ?_
      refine pw_icmp_ge 26 (by decide) dX3_pushAll_4 (by omega) (by omega) (fun c4 => ?_) (fun c4 => ?_)
      · skip
        refine pw_vret dX3_pushAll_26 rfl rfl ?_
        have e2 : i = k.toNat := by omega
        subst e2
        exact ⟨rfl, rfl, h4⟩
      · skip
        refine pw_iload_n 3 rfl dX3_pushAll_7 rfl ?_
        refine pw_aload_n 1 rfl dX3_pushAll_8 rfl ?_
        refine pw_alen dX3_pushAll_9 (by assumption) ?_
        refine pw_icmp_ge 26 (by decide) dX3_pushAll_10 (by omega) (by omega) (fun c10 => ?_) (fun c10 => ?_)
        · skip
          exfalso; omega
        · skip
          refine pw_aload_n 0 rfl dX3_pushAll_13 rfl ?_
          refine pw_aload_n 1 rfl dX3_pushAll_14 rfl ?_
          refine pw_iload_n 3 rfl dX3_pushAll_15 rfl ?_
          refine pw_iaload dX3_pushAll_16 (by assumption) (by omega) (by omega) (fun r16 => ?_)
          try simp (disch := omega) only [wr_s, wr_a, wr_k] at r16 ⊢
          rw [g87] at r16 ⊢
          refine pw_callV (d' := d - 1) (As := [_]) (ci := 3) dX3_pushAll_17 ok_X3_push kw_835 rfl rfl (Of.o (by assumption)) (by omega) rfl (Nat.le_of_ble_eq_true rfl) (k_push (d - 1) (by omega) n ok m1 b hK _ (by omega) hi.1.1 hi.1.2) (Nat.le_refl _) (Or.inl rfl) (fun r ok1 mem1 hq => ?_)
          obtain ⟨rfl, rfl, rfl⟩ := hq
          refine pw_iinc dX3_pushAll_20 rfl (by decide) ?_
          refine pw_goto 2 (by decide) dX3_pushAll_23 ?_
          exact pw_locs _ rfl (ih (i + 1) _ (by omega) (by omega) (by show kpP (kpAll mem b i) b _ = _; rw [h4]))
  exact pw_locs _ rfl (lp2 (k.toNat + 1) 0 mem (by omega) (by omega) rfl)
set_option maxHeartbeats 4000000 in
set_option maxRecDepth 100000 in
theorem s_numberTold (d : Nat) (hd : 0 ≤ d) (n : Nat) (ok : pO) (mem : pM) (k p t : Int) (hk : -2147483648 ≤ k ∧ k ≤ 2147483647) (hp : 1 ≤ p ∧ p ≤ 6) (ht : 0 ≤ t ∧ t < p) : PM mi_X0_numberTold d [vi k, vi p, vi t] n ok mem n (fun r ok' mem' => r = some (vi (tel k p t)) ∧ ok = ok' ∧ mem = mem') := by
  refine PM.of (by decide) (by decide) (Nat.le_refl _) (Nat.le_of_ble_eq_true rfl) ?_
  refine pw_iload_n 0 rfl dX0_numberTold_0 rfl ?_
  refine pw_tab1 (1) 32 dX0_numberTold_1 (by omega) (by omega) (by omega) rfl rfl (fun c1 => ?_) (fun c1_1 => ?_)
  · skip
    refine pw_iload_n 2 rfl dX0_numberTold_32 rfl ?_
    refine pw_iconst dX0_numberTold_33 ?_
    refine pw_iadd dX0_numberTold_34 ?_
    refine pw_iload_n 1 rfl dX0_numberTold_35 rfl ?_
    refine pw_icmp_ge 45 (by decide) dX0_numberTold_36 (by omega) (by omega) (fun c36 => ?_) (fun c36 => ?_)
    · skip
      refine pw_iconst dX0_numberTold_45 ?_
      refine pw_iret dX0_numberTold_46 rfl rfl ?_
      refine ⟨congrArg (fun z => some (vi z)) ?_, rfl, rfl⟩
      unfold tel; rw [if_pos (by omega)]
      have e9 : t + 1 = p := by omega
      rw [e9, Int.emod_self]
    · skip
      refine pw_iload_n 2 rfl dX0_numberTold_39 rfl ?_
      refine pw_iconst dX0_numberTold_40 ?_
      refine pw_iadd dX0_numberTold_41 ?_
      refine pw_goto 46 (by decide) dX0_numberTold_42 ?_
      refine pw_iret dX0_numberTold_46 rfl rfl ?_
      refine ⟨congrArg (fun z => some (vi z)) ?_, rfl, rfl⟩
      unfold tel; rw [if_pos (by omega)]
      exact (Int.emod_eq_of_lt (by omega) (by omega)).symm
  · skip
    refine pw_tab1 (2) 63 dX0_numberTold_1 (by omega) (by omega) (by omega) rfl rfl (fun c1 => ?_) (fun c1_2 => ?_)
    · skip
      refine pw_iload_n 2 rfl dX0_numberTold_63 rfl ?_
      refine pw_iret dX0_numberTold_64 rfl rfl ?_
      refine ⟨congrArg (fun z => some (vi z)) ?_, rfl, rfl⟩
      unfold tel; (repeat' split) <;> first | omega | rfl
    · skip
      refine pw_tab1 (3) 47 dX0_numberTold_1 (by omega) (by omega) (by omega) rfl rfl (fun c1 => ?_) (fun c1_3 => ?_)
      · skip
        refine pw_iload_n 1 rfl dX0_numberTold_47 rfl ?_
        refine pw_iconst dX0_numberTold_48 ?_
        refine pw_isub dX0_numberTold_49 ?_
        refine pw_iload_n 2 rfl dX0_numberTold_50 rfl ?_
        refine pw_isub dX0_numberTold_51 ?_
        refine pw_iret dX0_numberTold_52 rfl rfl ?_
        refine ⟨congrArg (fun z => some (vi z)) ?_, rfl, rfl⟩
        unfold tel; (repeat' split) <;> first | omega | rfl
      · skip
        refine pw_tab1 (4) 53 dX0_numberTold_1 (by omega) (by omega) (by omega) rfl rfl (fun c1 => ?_) (fun c1_4 => ?_)
        · skip
          refine pw_iload_n 2 rfl dX0_numberTold_53 rfl ?_
          refine pw_if_ne 61 (by decide) dX0_numberTold_54 (by omega) (fun c54 => ?_) (fun c54 => ?_)
          · skip
            refine pw_iconst dX0_numberTold_61 ?_
            refine pw_iret dX0_numberTold_62 rfl rfl ?_
            refine ⟨congrArg (fun z => some (vi z)) ?_, rfl, rfl⟩
            unfold tel; (repeat' split) <;> first | omega | rfl
          · skip
            refine pw_iconst dX0_numberTold_57 ?_
            refine pw_goto 62 (by decide) dX0_numberTold_58 ?_
            refine pw_iret dX0_numberTold_62 rfl rfl ?_
            refine ⟨congrArg (fun z => some (vi z)) ?_, rfl, rfl⟩
            unfold tel; (repeat' split) <;> first | omega | rfl
        · skip
          refine pw_tableOut 63 dX0_numberTold_1 (by omega) (by omega) rfl ?_
          refine pw_iload_n 2 rfl dX0_numberTold_63 rfl ?_
          refine pw_iret dX0_numberTold_64 rfl rfl ?_
          refine ⟨congrArg (fun z => some (vi z)) ?_, rfl, rfl⟩
          unfold tel; (repeat' split) <;> first | omega | rfl
set_option maxHeartbeats 4000000 in
set_option maxRecDepth 100000 in
theorem s_isHandled (d : Nat) (hd : 0 ≤ d) (n : Nat) (ok : pO) (mem : pM) (k : Int) (hk : -2147483648 ≤ k ∧ k ≤ 2147483647) : PM mi_X0_isHandled d [vi k] n ok mem n (fun r ok' mem' => r = some (vi (if k = 0 ∨ k = 1 ∨ k = 4 then 1 else 0)) ∧ ok = ok' ∧ mem = mem') := by
  refine PM.of (by decide) (by decide) (Nat.le_refl _) (Nat.le_of_ble_eq_true rfl) ?_
  refine pw_iload_n 0 rfl dX0_isHandled_0 rfl ?_
  refine pw_if_eq 14 (by decide) dX0_isHandled_1 (by omega) (fun c1 => ?_) (fun c1 => ?_)
  · skip
    refine pw_iconst dX0_isHandled_14 ?_
    refine pw_goto 19 (by decide) dX0_isHandled_15 ?_
    refine pw_zret dX0_isHandled_19 rfl (by omega) rfl ?_
    refine ⟨congrArg (fun z => some (vi z)) ?_, rfl, rfl⟩
    first | (rw [if_pos (by omega)]) | (rw [if_neg (by omega)])
  · skip
    refine pw_iload_n 0 rfl dX0_isHandled_4 rfl ?_
    refine pw_iconst dX0_isHandled_5 ?_
    refine pw_icmp_eq 14 (by decide) dX0_isHandled_6 (by omega) (by omega) (fun c6 => ?_) (fun c6 => ?_)
    · skip
      refine pw_iconst dX0_isHandled_14 ?_
      refine pw_goto 19 (by decide) dX0_isHandled_15 ?_
      refine pw_zret dX0_isHandled_19 rfl (by omega) rfl ?_
      refine ⟨congrArg (fun z => some (vi z)) ?_, rfl, rfl⟩
      first | (rw [if_pos (by omega)]) | (rw [if_neg (by omega)])
    · skip
      refine pw_iload_n 0 rfl dX0_isHandled_9 rfl ?_
      refine pw_iconst dX0_isHandled_10 ?_
      refine pw_icmp_ne 18 (by decide) dX0_isHandled_11 (by omega) (by omega) (fun c11 => ?_) (fun c11 => ?_)
      · skip
        refine pw_iconst dX0_isHandled_18 ?_
        refine pw_zret dX0_isHandled_19 rfl (by omega) rfl ?_
        refine ⟨congrArg (fun z => some (vi z)) ?_, rfl, rfl⟩
        first | (rw [if_pos (by omega)]) | (rw [if_neg (by omega)])
      · skip
        refine pw_iconst dX0_isHandled_14 ?_
        refine pw_goto 19 (by decide) dX0_isHandled_15 ?_
        refine pw_zret dX0_isHandled_19 rfl (by omega) rfl ?_
        refine ⟨congrArg (fun z => some (vi z)) ?_, rfl, rfl⟩
        first | (rw [if_pos (by omega)]) | (rw [if_neg (by omega)])
set_option maxHeartbeats 4000000 in
set_option maxRecDepth 100000 in
theorem s_isFaller (d : Nat) (hd : 0 ≤ d) (n : Nat) (ok : pO) (mem : pM) (k : Int) (hk : -2147483648 ≤ k ∧ k ≤ 2147483647) : PM mi_X0_isFaller d [vi k] n ok mem n (fun r ok' mem' => r = some (vi (if k = 2 ∨ k = 3 then 1 else 0)) ∧ ok = ok' ∧ mem = mem') := by
  refine PM.of (by decide) (by decide) (Nat.le_refl _) (Nat.le_of_ble_eq_true rfl) ?_
  refine pw_iload_n 0 rfl dX0_isFaller_0 rfl ?_
  refine pw_iconst dX0_isFaller_1 ?_
  refine pw_icmp_eq 10 (by decide) dX0_isFaller_2 (by omega) (by omega) (fun c2 => ?_) (fun c2 => ?_)
  · skip
    refine pw_iconst dX0_isFaller_10 ?_
    refine pw_goto 15 (by decide) dX0_isFaller_11 ?_
    refine pw_zret dX0_isFaller_15 rfl (by omega) rfl ?_
    refine ⟨congrArg (fun z => some (vi z)) ?_, rfl, rfl⟩
    first | (rw [if_pos (by omega)]) | (rw [if_neg (by omega)])
  · skip
    refine pw_iload_n 0 rfl dX0_isFaller_5 rfl ?_
    refine pw_iconst dX0_isFaller_6 ?_
    refine pw_icmp_ne 14 (by decide) dX0_isFaller_7 (by omega) (by omega) (fun c7 => ?_) (fun c7 => ?_)
    · skip
      refine pw_iconst dX0_isFaller_14 ?_
      refine pw_zret dX0_isFaller_15 rfl (by omega) rfl ?_
      refine ⟨congrArg (fun z => some (vi z)) ?_, rfl, rfl⟩
      first | (rw [if_pos (by omega)]) | (rw [if_neg (by omega)])
    · skip
      refine pw_iconst dX0_isFaller_10 ?_
      refine pw_goto 15 (by decide) dX0_isFaller_11 ?_
      refine pw_zret dX0_isFaller_15 rfl (by omega) rfl ?_
      refine ⟨congrArg (fun z => some (vi z)) ?_, rfl, rfl⟩
      first | (rw [if_pos (by omega)]) | (rw [if_neg (by omega)])
set_option maxHeartbeats 4000000 in
set_option maxRecDepth 100000 in
theorem s_bodyOfGoing (d : Nat) (hd : 0 ≤ d) (n : Nat) (ok : pO) (mem : pM) (k : Int) (hk : k = 0 ∨ k = 1 ∨ k = 4) : PM mi_X0_bodyOfGoing d [vi k] n ok mem n (fun r ok' mem' => r = some (vi (bBody k)) ∧ ok = ok' ∧ mem = mem') := by
  refine PM.of (by decide) (by decide) (Nat.le_refl _) (Nat.le_of_ble_eq_true rfl) ?_
  refine pw_iload_n 0 rfl dX0_bodyOfGoing_0 rfl ?_
  refine pw_lk1 (1) 28 dX0_bodyOfGoing_1 (by omega) (by decide) rfl rfl (fun c1 => ?_) (fun c1_1 => ?_)
  · skip
    refine pw_bipush dX0_bodyOfGoing_28 (by decide) ?_
    refine pw_iret dX0_bodyOfGoing_30 rfl rfl ?_
    refine ⟨congrArg (fun z => some (vi z)) ?_, rfl, rfl⟩
    unfold bBody; (repeat' split) <;> first | omega | rfl
  · skip
    refine pw_lk1 (4) 31 dX0_bodyOfGoing_1 (by omega) (by decide) rfl rfl (fun c1 => ?_) (fun c1_4 => ?_)
    · skip
      refine pw_bipush dX0_bodyOfGoing_31 (by decide) ?_
      refine pw_iret dX0_bodyOfGoing_33 rfl rfl ?_
      refine ⟨congrArg (fun z => some (vi z)) ?_, rfl, rfl⟩
      unfold bBody; (repeat' split) <;> first | omega | rfl
    · skip
      refine pw_lookup 34 dX0_bodyOfGoing_1 (by decide) (by omega) (show _ = (33 : Int) by (obtain rfl : k = 0 := (by omega)); rfl) rfl ?_
      refine pw_bipush dX0_bodyOfGoing_34 (by decide) ?_
      refine pw_iret dX0_bodyOfGoing_36 rfl rfl ?_
      refine ⟨congrArg (fun z => some (vi z)) ?_, rfl, rfl⟩
      unfold bBody; (repeat' split) <;> first | omega | rfl
