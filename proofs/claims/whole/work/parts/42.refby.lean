/-! ===== a chest by a number ===== -/
theorem iUsh16 (x : Int) : 0 ≤ iUsh x 16 ∧ iUsh x 16 ≤ 65535 := by
  unfold iUsh
  have e : ((Int32.ofInt 16).toUInt32 &&& Int32.toUInt32 31) = (16 : UInt32) := by decide
  rw [e]
  generalize (Int32.ofInt x).toUInt32 = u
  have h1 : (u >>> (16 : UInt32)).toNat < 65536 := by
    rw [UInt32.toNat_shiftRight]
    have h2 := u.toNat_lt
    have h3 : (16 : UInt32).toNat % 32 = 16 := by decide
    rw [h3, Nat.shiftRight_eq_div_pow]
    omega
  generalize u >>> (16 : UInt32) = w at h1
  have h4 : w.toInt32.toInt = (w.toNat : Int) := by
    show w.toBitVec.toInt = _
    rw [BitVec.toInt_eq_toNat_of_msb]
    · rfl
    · rw [BitVec.msb_eq_false_iff_two_mul_lt]
      show 2 * w.toNat < _
      omega
  rw [h4]; omega
def dNx (x : Int) : Int := nz (x * 1103515245 + 12345)
def dv (x k : Int) : Int := iUsh x 16 % k
theorem dv_ran (x : Int) {k : Int} (h : 1 ≤ k) : 0 ≤ dv x k ∧ dv x k < k := ⟨Int.emod_nonneg _ (by omega), Int.emod_lt_of_pos _ (by omega)⟩
theorem sDrw_ran {j : Int} (h1 : 0 ≤ j) (h2 : j < 4) : sDrw j = 0 ∨ sDrw j = 1 ∨ sDrw j = 4 ∨ sDrw j = 5 := by unfold sDrw; split <;> omega
set_option maxHeartbeats 4000000 in
set_option maxRecDepth 100000 in
theorem r_draw (d : Nat) (hd : 0 ≤ d) (n : Nat) (ok : pO) (mem : pM) (hU : RefUp n ok) (k : Int) (hk : 1 ≤ k ∧ k ≤ 100) : PM mi_X10_draw d [vr 88, vi k] n ok mem n (fun r ok' mem' => r = some (vi (dv (dNx (mem 88 21)) k)) ∧ ok = ok' ∧ wr mem 88 21 (dNx (mem 88 21)) = mem') := by
  obtain ⟨hO, ⟨a89, a90, a91, a92, a93, a94, a95, a96, a97, a98⟩, ⟨a99, a100, a101, a102, a103, a104, a105, a106, a107⟩, ⟨a108, a109, a110, a111, a112, a113, a114, a115, a116, a117, a118, a119⟩, a120, a121, a122⟩ := id hU
  refine PM.of (by decide) (by decide) (Nat.le_refl _) (Nat.le_of_ble_eq_true rfl) ?_
  refine pw_aload_n 0 rfl dX10_draw_0 rfl ?_
  refine pw_aload_n 0 rfl dX10_draw_1 rfl ?_
  refine pw_gI 21 21 rfl dX10_draw_2 cOk10 (by assumption) (by decide) kw_1086 (by decide) (fun r2 => ?_)
  refine pw_ldc (x := 1103515245) kw_1354 (by decide) dX10_draw_5 ?_
  refine pw_imul dX10_draw_7 ?_
  refine pw_sipush dX10_draw_8 (by decide) ?_
  refine pw_iadd dX10_draw_11 ?_
  refine pw_pIz 21 21 rfl dX10_draw_12 cOk10 (by assumption) (by decide) kw_1086 rfl rfl (by decide)  ?_
  refine pw_aload_n 0 rfl dX10_draw_15 rfl ?_
  refine pw_gI 21 21 rfl dX10_draw_16 cOk10 (by assumption) (by decide) kw_1086 (by decide) (fun r16 => ?_)
  rw [wr_s] at r16 ⊢
  refine pw_bipush dX10_draw_19 (by decide) ?_
  refine pw_iushr dX10_draw_21 ?_
  refine pw_iload_n 1 rfl dX10_draw_22 rfl ?_
  refine pw_irem dX10_draw_23 (by have h9 := iUsh16 (nz (mem 88 21 * 1103515245 + 12345)); omega) (by omega) ?_
  refine pw_iret dX10_draw_24 rfl rfl ?_
  exact ⟨rfl, rfl, rfl⟩
set_option maxHeartbeats 4000000 in
set_option maxRecDepth 100000 in
theorem r_seatBy (d : Nat) (hd : 0 ≤ d) (n : Nat) (ok : pO) (mem : pM) (k : Int) (hk : -2147483648 ≤ k ∧ k ≤ 2147483647) : PM mi_X10_seatBy d [vi k] n ok mem n (fun r ok' mem' => r = some (vi (sDrw k)) ∧ ok = ok' ∧ mem = mem') := by
  refine PM.of (by decide) (by decide) (Nat.le_refl _) (Nat.le_of_ble_eq_true rfl) ?_
  refine pw_iload_n 0 rfl dX10_seatBy_0 rfl ?_
  refine pw_iconst dX10_seatBy_1 ?_
  refine pw_icmp_ge 9 (by decide) dX10_seatBy_2 (by omega) (by omega) (fun c2 => ?_) (fun c2 => ?_)
  · skip
    refine pw_iload_n 0 rfl dX10_seatBy_9 rfl ?_
    refine pw_iconst dX10_seatBy_10 ?_
    refine pw_iadd dX10_seatBy_11 ?_
    refine pw_iret dX10_seatBy_12 rfl rfl ?_
    have e : sDrw k = k + 2 := if_neg (by omega)
    rw [e]; exact ⟨rfl, rfl, rfl⟩
  · skip
    refine pw_iload_n 0 rfl dX10_seatBy_5 rfl ?_
    refine pw_goto 12 (by decide) dX10_seatBy_6 ?_
    refine pw_iret dX10_seatBy_12 rfl rfl ?_
    have e : sDrw k = k := if_pos (by omega)
    rw [e]; exact ⟨rfl, rfl, rfl⟩
/-- the k-th part -/
def stP (m : pM) (c k : Int) : pM := rStand (wr m 88 21 (dNx (dNx (dNx (m 88 21))))) (16 * c + sDrw k) (dv (dNx (m 88 21)) 5) (2 + dv (dNx (dNx (m 88 21))) 3) (dv (dNx (dNx (dNx (m 88 21)))) 6)
def nst (m : pM) (c : Int) : Nat → pM
  | 0 => m
  | k + 1 => stP (nst m c k) c k
/-- the k-th condition -/
def cdX (m : pM) (k : Nat) : Int := if k = 0 then m 88 21 else dNx (m 88 21)
def cdA (m : pM) (k : Nat) : Int := if k = 0 then -1 else sDrw (dv (dNx (m 88 21)) 4)
def cdL (m : pM) (k : Nat) : Int := sDrw (dv (dNx (cdX m k)) 4)
def cdN (m : pM) (c : Int) (k : Nat) : Int := if m 90 (16 * c + cdL m k) = 4 then 2 else m 91 (16 * c + cdL m k)
def cdM (m : pM) (c : Int) (k : Nat) : pM := rMore (wr m 88 21 (dNx (cdX m k))) c (cdA m k) (cdL m k) (cdN m c k)
def trG (m : pM) (q : Int) (k : Nat) (N : Int) : Nat → pM
  | 0 => m
  | i + 1 => if k = 0 then wr (trG m q k N i) 98 (6 * q + i) (if (i : Int) = N - 1 then 1 else 0) else wr (wr (trG m q k N i) 88 21 (dNx (trG m q k N i 88 21))) 98 (6 * q + i) (if dv (dNx (trG m q k N i 88 21)) 3 = 0 then 0 else 1)
def cdS (m : pM) (c : Int) (k : Nat) : pM := trG (cdM m c k) (40 * c + m 94 c) k (cdN m c k) (cdN m c k).toNat
def ncd (m : pM) (c : Int) : Nat → pM
  | 0 => m
  | k + 1 => cdS (ncd m c k) c k
def by0 (m : pM) (c x : Int) : pM := wr (wr (fiM (bcM m 89 (4 * c) 4 (fun q => if q < 2 then 2 else -1)) 90 (16 * c) 16 (-1)) 94 c 0) 88 21 (nz x)
def byM (m : pM) (c x : Int) : pM := ncd (nst (by0 m c x) c 4) c 6
/-! what stands behind k parts, behind k conditions -/
def isD (s : Int) : Prop := s = 0 ∨ s = 1 ∨ s = 4 ∨ s = 5
def pPK (m : pM) (c : Int) : Prop := (∀ q : Int, 0 ≤ q → q ≤ 3 → m 89 (4 * c + q) = if q < 2 then 2 else -1) ∧ ∀ s : Int, 0 ≤ s → s ≤ 15 → m 90 (16 * c + s) = -1 ∨ (isD s ∧ (0 ≤ m 90 (16 * c + s) ∧ m 90 (16 * c + s) ≤ 4) ∧ (2 ≤ m 91 (16 * c + s) ∧ m 91 (16 * c + s) ≤ 4) ∧ m 92 (16 * c + s) = 0 ∧ (0 ≤ m 93 (16 * c + s) ∧ m 93 (16 * c + s) ≤ 5))
def nPK (m : pM) (c : Int) (k : Int) : Prop := ∀ j : Int, 0 ≤ j → j < k → m 90 (16 * c + sDrw j) ≠ -1
theorem rSt_v (m : pM) (x k p e : Int) (a : Nat) (j : Int) : rStand m x k p e a j = if j = x then (if a = 90 then k else if a = 91 then p else if a = 92 then 0 else if a = 93 then e else m a j) else m a j := by
  unfold rStand wr
  by_cases ej : j = x
  · subst ej
    simp only [and_true, if_true]
    by_cases h3 : a = 93
    · subst h3; simp
    · by_cases h2 : a = 92
      · subst h2; simp
      · by_cases h1 : a = 91
        · subst h1; simp
        · simp [h1, h2, h3]
  · simp [ej]
theorem stP_ok {m : pM} {c : Int} (h : pPK m c) (k : Int) (h1 : 0 ≤ k) (h2 : k < 4) : pPK (stP m c k) c := by
  have hd := sDrw_ran h1 h2
  have d1 := dv_ran (dNx (m 88 21)) (k := 5) (by omega)
  have d2 := dv_ran (dNx (dNx (m 88 21))) (k := 3) (by omega)
  have d3 := dv_ran (dNx (dNx (dNx (m 88 21)))) (k := 6) (by omega)
  refine ⟨fun q q1 q2 => ?_, fun s s1 s2 => ?_⟩
  · unfold stP
    rw [rSt_v]
    have := h.1 q q1 q2
    split <;> simpa [wr] using this
  · unfold stP
    rw [rSt_v, rSt_v, rSt_v, rSt_v]
    by_cases e : s = sDrw k
    · subst e
      simp only [if_true]
      simp
      refine Or.inr ⟨hd, ⟨?_, ?_⟩, ⟨?_, ?_⟩, ?_, ?_⟩ <;> omega
    · have e2 : ¬ (16 * c + s = 16 * c + sDrw k) := by omega
      simp only [if_neg e2]
      simpa [wr] using h.2 s s1 s2
theorem stP_n {m : pM} {c : Int} (k : Int) (h1 : 0 ≤ k) (h2 : k < 4) (h : nPK m c k) : nPK (stP m c k) c (k + 1) := fun j j1 j2 => by
  have d1 := dv_ran (dNx (m 88 21)) (k := 5) (by omega)
  unfold stP
  rw [rSt_v]
  by_cases e : sDrw j = sDrw k
  · rw [e, if_pos rfl, if_pos rfl]; omega
  · rw [if_neg (by omega)]
    have : j ≠ k := fun z => e (by rw [z])
    have := h j j1 (by omega)
    simpa [wr] using this
theorem stP_94 (m : pM) (c k : Int) (a : Nat) (h : a ≠ 88) (h1 : a < 90 ∨ 93 < a) : stP m c k a = m a := by
  funext j; unfold stP; rw [rSt_v]; split
  · rw [if_neg (by omega), if_neg (by omega), if_neg (by omega), if_neg (by omega), wr_a _ _ _ h]
  · rw [wr_a _ _ _ h]
theorem nst_ok {m : pM} {c : Int} (h : pPK m c) (k : Nat) (hk : k ≤ 4) : pPK (nst m c k) c ∧ nPK (nst m c k) c k := by
  induction k with
  | zero => exact ⟨h, fun j j1 j2 => absurd j2 (by omega)⟩
  | succ k ih =>
    have i := ih (by omega)
    exact ⟨stP_ok i.1 k (by omega) (by omega), stP_n k (by omega) (by omega) i.2⟩
theorem nst_94 (m : pM) (c : Int) (k : Nat) (a : Nat) (h : a ≠ 88) (h1 : a < 90 ∨ 93 < a) : nst m c k a = m a := by
  induction k with
  | zero => rfl
  | succ k ih => show stP (nst m c k) c k a = _; rw [stP_94 _ _ _ _ h h1, ih]
theorem by0_ok (m : pM) (c x : Int) : pPK (by0 m c x) c ∧ by0 m c x 94 c = 0 := by
  refine ⟨⟨fun q q1 q2 => ?_, fun s s1 s2 => Or.inl ?_⟩, ?_⟩
  · unfold by0
    rw [wr_a _ _ _ (by omega), wr_a _ _ _ (by omega), fiM_a _ _ _ _ (by omega), bcM_i _ _ _ _ _ _ (by omega) (by omega)]
    have e : 4 * c + q - 4 * c = q := by omega
    rw [e]
  · unfold by0
    rw [wr_a _ _ _ (by omega), wr_a _ _ _ (by omega)]
    unfold fiM; rw [if_pos ⟨rfl, by omega, by omega⟩]
  · unfold by0; rw [wr_a _ _ _ (by omega), wr_s]
/-- conditions up to k are as they must be -/
def cPK (m : pM) (c k : Int) : Prop := m 94 c = k ∧ ∀ j : Int, 0 ≤ j → j < k → (-1 ≤ m 95 (40 * c + j) ∧ m 95 (40 * c + j) ≤ 5) ∧ (0 ≤ m 96 (40 * c + j) ∧ m 96 (40 * c + j) ≤ 5) ∧ (2 ≤ m 97 (40 * c + j) ∧ m 97 (40 * c + j) ≤ 4) ∧ ∀ i : Int, 0 ≤ i → i ≤ 5 → m 98 (6 * (40 * c + j) + i) = 0 ∨ m 98 (6 * (40 * c + j) + i) = 1
theorem cdN_ran {m : pM} {c : Int} (h : pPK m c) (hn : nPK m c 4) (k : Nat) : 2 ≤ cdN m c k ∧ cdN m c k ≤ 4 := by
  have d1 := dv_ran (dNx (cdX m k)) (k := 4) (by omega)
  have h1 := hn (dv (dNx (cdX m k)) 4) d1.1 d1.2
  have hd := sDrw_ran d1.1 d1.2
  have h2 := h.2 (sDrw (dv (dNx (cdX m k)) 4)) (by omega) (by omega)
  unfold cdN cdL
  split
  · omega
  · rcases h2 with e | e
    · exact absurd e h1
    · exact e.2.2.1
theorem trG_a (m : pM) (q : Int) (k : Nat) (N : Int) (i : Nat) (a : Nat) (h1 : a ≠ 98) (h2 : a ≠ 88) : trG m q k N i a = m a := by
  induction i with
  | zero => rfl
  | succ i ih =>
    unfold trG
    split
    · rw [wr_a _ _ _ h1, ih]
    · rw [wr_a _ _ _ h1, wr_a _ _ _ h2, ih]
theorem trG_88 (m : pM) (q : Int) (k : Nat) (N : Int) (i : Nat) (j : Int) (h : j ≠ 21) : trG m q k N i 88 j = m 88 j := by
  induction i with
  | zero => rfl
  | succ i ih =>
    unfold trG
    split
    · rw [wr_a _ _ _ (by omega), ih]
    · rw [wr_a _ _ _ (by omega), wr_k _ _ _ _ h, ih]
theorem trG_98 (m : pM) (q : Int) (k : Nat) (N : Int) (i : Nat) (j : Int) : (trG m q k N i 98 j = m 98 j) ∨ ((6 * q ≤ j ∧ j < 6 * q + i) ∧ (trG m q k N i 98 j = 0 ∨ trG m q k N i 98 j = 1)) := by
  induction i with
  | zero => exact Or.inl rfl
  | succ i ih =>
    by_cases e : j = 6 * q + i
    · subst e
      refine Or.inr ⟨by omega, ?_⟩
      unfold trG
      split
      · rw [wr_s]; split <;> simp
      · rw [wr_s]; split <;> simp
    · have e2 : trG m q k N (i + 1) 98 j = trG m q k N i 98 j := by
        show (if k = 0 then _ else _ : pM) 98 j = _
        split
        · rw [wr_k _ _ _ _ e]
        · rw [wr_k _ _ _ _ e, wr_a _ _ _ (by omega)]
      rw [e2]
      rcases ih with h | h
      · exact Or.inl h
      · exact Or.inr ⟨by omega, h.2⟩
theorem rMore_a (m : pM) (c a l k : Int) (b : Nat) (h : b < 94 ∨ 98 < b) : rMore m c a l k b = m b := by
  unfold rMore
  rw [wr_a _ _ _ (by omega), fiM_a _ _ _ _ (by omega), wr_a _ _ _ (by omega), wr_a _ _ _ (by omega), wr_a _ _ _ (by omega)]
theorem cdS_a (m : pM) (c : Int) (k : Nat) (b : Nat) (h : b < 94 ∨ 98 < b) (h2 : b ≠ 88) : cdS m c k b = m b := by
  unfold cdS
  rw [trG_a _ _ _ _ _ _ (by omega) h2]
  unfold cdM
  rw [rMore_a _ _ _ _ _ _ h, wr_a _ _ _ h2]
theorem cdS_88 (m : pM) (c : Int) (k : Nat) (j : Int) (h : j ≠ 21) : cdS m c k 88 j = m 88 j := by
  unfold cdS
  rw [trG_88 _ _ _ _ _ _ h]
  unfold cdM
  rw [rMore_a _ _ _ _ _ _ (by omega), wr_k _ _ _ _ h]
theorem cdS_ok {m : pM} {c : Int} (h : pPK m c) (hn : nPK m c 4) (k : Nat) (hk : k < 40) (hc : cPK m c k) : cPK (cdS m c k) c ((k : Int) + 1) := by
  have hN := cdN_ran h hn k
  have d0 := dv_ran (dNx (m 88 21)) (k := 4) (by omega)
  have s0 := sDrw_ran d0.1 d0.2
  have d1 := dv_ran (dNx (cdX m k)) (k := 4) (by omega)
  have s1 := sDrw_ran d1.1 d1.2
  have hA : -1 ≤ cdA m k ∧ cdA m k ≤ 5 := by unfold cdA; split <;> omega
  have hL : 0 ≤ cdL m k ∧ cdL m k ≤ 5 := by unfold cdL; omega
  have q94 : (wr m 88 21 (dNx (cdX m k))) 94 c = m 94 c := by rw [wr_a _ _ _ (by omega)]
  have em : ∀ j, cdM m c k 98 j = if 6 * (40 * c + m 94 c) ≤ j ∧ j < 6 * (40 * c + m 94 c) + 6 then 0 else m 98 j := fun j => by
    unfold cdM rMore
    rw [q94, wr_a _ _ _ (by omega)]
    unfold fiM
    by_cases q : 6 * (40 * c + m 94 c) ≤ j ∧ j < 6 * (40 * c + m 94 c) + 6
    · rw [if_pos ⟨rfl, q.1, q.2⟩, if_pos q]
    · rw [if_neg (fun z => q z.2), if_neg q, wr_a _ _ _ (by omega), wr_a _ _ _ (by omega), wr_a _ _ _ (by omega), wr_a _ _ _ (by omega)]
  refine ⟨?_, fun j j1 j2 => ?_⟩
  · unfold cdS; rw [trG_a _ _ _ _ _ _ (by omega) (by omega)]; unfold cdM rMore; rw [q94, wr_s, hc.1]
  · have e98 : ∀ i : Int, 0 ≤ i → i ≤ 5 → cdS m c k 98 (6 * (40 * c + j) + i) = 0 ∨ cdS m c k 98 (6 * (40 * c + j) + i) = 1 := fun i i1 i2 => by
      unfold cdS
      rcases trG_98 (cdM m c k) (40 * c + m 94 c) k (cdN m c k) (cdN m c k).toNat (6 * (40 * c + j) + i) with e | e
      · rw [e, em]
        split
        · exact Or.inl rfl
        · rename_i q
          rw [hc.1] at q
          exact (hc.2 j j1 (by omega)).2.2.2 i i1 i2
      · exact e.2
    have e95 : cdS m c k 95 (40 * c + j) = if j = k then cdA m k else m 95 (40 * c + j) := by
      unfold cdS; rw [trG_a _ _ _ _ _ _ (by omega) (by omega)]; unfold cdM rMore
      rw [q94, wr_a _ _ _ (by omega), fiM_a _ _ _ _ (by omega), wr_a _ _ _ (by omega), wr_a _ _ _ (by omega), hc.1]
      split
      · rename_i q; rw [q, wr_s]
      · rw [wr_k _ _ _ _ (by omega), wr_a _ _ _ (by omega)]
    have e96 : cdS m c k 96 (40 * c + j) = if j = k then cdL m k else m 96 (40 * c + j) := by
      unfold cdS; rw [trG_a _ _ _ _ _ _ (by omega) (by omega)]; unfold cdM rMore
      rw [q94, wr_a _ _ _ (by omega), fiM_a _ _ _ _ (by omega), wr_a _ _ _ (by omega), hc.1]
      split
      · rename_i q; rw [q, wr_s]
      · rw [wr_k _ _ _ _ (by omega), wr_a _ _ _ (by omega), wr_a _ _ _ (by omega)]
    have e97 : cdS m c k 97 (40 * c + j) = if j = k then cdN m c k else m 97 (40 * c + j) := by
      unfold cdS; rw [trG_a _ _ _ _ _ _ (by omega) (by omega)]; unfold cdM rMore
      rw [q94, wr_a _ _ _ (by omega), fiM_a _ _ _ _ (by omega), hc.1]
      split
      · rename_i q; rw [q, wr_s]
      · rw [wr_k _ _ _ _ (by omega), wr_a _ _ _ (by omega), wr_a _ _ _ (by omega), wr_a _ _ _ (by omega)]
    refine ⟨?_, ?_, ?_, e98⟩
    · rw [e95]; split
      · exact hA
      · exact (hc.2 j j1 (by omega)).1
    · rw [e96]; split
      · exact hL
      · exact (hc.2 j j1 (by omega)).2.1
    · rw [e97]; split
      · exact hN
      · exact (hc.2 j j1 (by omega)).2.2.1
theorem pPK_a {m m1 : pM} {c : Int} (h : ∀ a, 89 ≤ a → a ≤ 93 → m1 a = m a) (hp : pPK m c) : pPK m1 c := by
  unfold pPK
  rw [h 89 (by omega) (by omega), h 90 (by omega) (by omega), h 91 (by omega) (by omega), h 92 (by omega) (by omega), h 93 (by omega) (by omega)]
  exact hp
theorem ncd_a (m : pM) (c : Int) (k : Nat) (b : Nat) (h : b < 94 ∨ 98 < b) (h2 : b ≠ 88) : ncd m c k b = m b := by
  induction k with
  | zero => rfl
  | succ k ih => show cdS (ncd m c k) c k b = _; rw [cdS_a _ _ _ _ h h2, ih]
theorem ncd_ok {m : pM} {c : Int} (h : pPK m c) (hn : nPK m c 4) (h0 : m 94 c = 0) (k : Nat) (hk : k ≤ 6) : pPK (ncd m c k) c ∧ nPK (ncd m c k) c 4 ∧ cPK (ncd m c k) c k := by
  have a1 := pPK_a (m1 := ncd m c k) (fun a q1 q2 => ncd_a m c k a (by omega) (by omega)) h
  have a2 : nPK (ncd m c k) c 4 := fun j j1 j2 => by rw [ncd_a m c k 90 (by omega) (by omega)]; exact hn j j1 j2
  refine ⟨a1, a2, ?_⟩
  induction k with
  | zero => exact ⟨h0, fun j j1 j2 => absurd j2 (by omega)⟩
  | succ k ih =>
    have b1 := pPK_a (m1 := ncd m c k) (fun a q1 q2 => ncd_a m c k a (by omega) (by omega)) h
    have b2 : nPK (ncd m c k) c 4 := fun j j1 j2 => by rw [ncd_a m c k 90 (by omega) (by omega)]; exact hn j j1 j2
    exact cdS_ok b1 b2 k (by omega) (ih (by omega) b1 b2)
set_option maxHeartbeats 4000000 in
set_option maxRecDepth 100000 in
theorem r_byNumber (d : Nat) (hd : 1 ≤ d) (n : Nat) (ok : pO) (mem : pM) (hU : RefUp n ok) (c x : Int) (hc : 0 ≤ c ∧ c ≤ 2) : PM mi_X10_byNumber d [vr 88, vi c, vi x] n ok mem n (fun r ok' mem' => r = none ∧ ok = ok' ∧ byM mem c x = mem') := by
  obtain ⟨hO, ⟨a89, a90, a91, a92, a93, a94, a95, a96, a97, a98⟩, ⟨a99, a100, a101, a102, a103, a104, a105, a106, a107⟩, ⟨a108, a109, a110, a111, a112, a113, a114, a115, a116, a117, a118, a119⟩, a120, a121, a122⟩ := id hU
  refine PM.of (by decide) (by decide) (Nat.le_refl _) (Nat.le_of_ble_eq_true rfl) ?_
  refine pw_iconst dX10_byNumber_0 ?_
  refine pw_istore_n 3 rfl dX10_byNumber_1 (by decide) ?_
  have lp2 : ∀ (kz : Nat) (i : Nat) (m1 : pM), 4 - (i : Int) < (kz : Int) → (i ≤ 4) → (bcM mem 89 (4 * c) i (fun q => if q < 2 then 2 else -1) = m1) → PW mi_X10_byNumber d n n (fun r ok' mem' => r = none ∧ ok = ok' ∧ byM mem c x = mem') 2 [(0, vr 88), (1, vi c), (2, vi x), (3, vi (i : Int))] [] n ok m1 := by
    intro kz
    induction kz with
    | zero =>
      intro i m1 hk h1 h2
      exact absurd hk (by omega)
    | succ kz ih =>
      intro i m1 hk h1 h2
      refine pw_iload_n 3 rfl dX10_byNumber_2 rfl ?_
      refine pw_iconst dX10_byNumber_3 ?_
      refine pw_icmp_ge 33 (by decide) dX10_byNumber_4 (by omega) (by omega) (fun c4 => ?_) (fun c4 => ?_)
      · skip
        have e4 : i = 4 := by omega
        subst e4
        refine pw_iconst dX10_byNumber_33 ?_
        refine pw_istore_n 3 rfl dX10_byNumber_34 (by decide) ?_
        have lp35 : ∀ (kz2 : Nat) (i : Nat) (m2 : pM), 16 - (i : Int) < (kz2 : Int) → (i ≤ 16) → (fiM m1 90 (16 * c) i (-1) = m2) → PW mi_X10_byNumber d n n (fun r ok' mem' => r = none ∧ ok = ok' ∧ byM mem c x = mem') 35 [(0, vr 88), (1, vi c), (2, vi x), (3, vi (i : Int))] [] n ok m2 := by
          intro kz2
          induction kz2 with
          | zero =>
            intro i m2 hk2 h3 h4
            exact absurd hk2 (by omega)
          | succ kz2 ih2 =>
            intro i m2 hk2 h3 h4
            refine pw_iload_n 3 rfl dX10_byNumber_35 rfl ?_
            refine pw_bipush dX10_byNumber_36 (by decide) ?_
            refine pw_icmp_ge 59 (by decide) dX10_byNumber_38 (by omega) (by omega) (fun c38 => ?_) (fun c38 => ?_)
            · skip
              have e16 : i = 16 := by omega
              subst e16
              refine pw_aload_n 0 rfl dX10_byNumber_59 rfl ?_
              refine pw_gR 9 94 dX10_byNumber_60 cOk10 (by assumption) (by decide) kw_1074 (by decide) rfl ?_
              refine pw_iload_n 1 rfl dX10_byNumber_63 rfl ?_
              refine pw_iconst dX10_byNumber_64 ?_
              refine pw_iastore dX10_byNumber_65 (by assumption) (by omega) (by omega) (by omega) ?_
              refine pw_aload_n 0 rfl dX10_byNumber_66 rfl ?_
              refine pw_iload_n 2 rfl dX10_byNumber_67 rfl ?_
              refine pw_pIz 21 21 rfl dX10_byNumber_68 cOk10 (by assumption) (by decide) kw_1086 rfl rfl (by decide)  ?_
              have eB : by0 mem c x = wr (wr m2 94 c 0) 88 21 (nz x) := by unfold by0; rw [← h4, ← h2]; rfl
              rw [← eB]
              have hB0 := by0_ok mem c x
              refine pw_iconst dX10_byNumber_71 ?_
              refine pw_istore_n 3 rfl dX10_byNumber_72 (by decide) ?_
              have lp73 : ∀ (kz3 : Nat) (i : Nat) (m3 : pM), 4 - (i : Int) < (kz3 : Int) → (i ≤ 4) → (nst (by0 mem c x) c i = m3) → PW mi_X10_byNumber d n n (fun r ok' mem' => r = none ∧ ok = ok' ∧ byM mem c x = mem') 73 [(0, vr 88), (1, vi c), (2, vi x), (3, vi (i : Int))] [] n ok m3 := by
                intro kz3
                induction kz3 with
                | zero =>
                  intro i m3 hk3 h5 h6
                  exact absurd hk3 (by omega)
                | succ kz3 ih3 =>
                  intro i m3 hk3 h5 h6
                  have d1 := dv_ran (dNx (m3 88 21)) (k := 5) (by omega)
                  have d2 := dv_ran (dNx (dNx (m3 88 21))) (k := 3) (by omega)
                  have d3 := dv_ran (dNx (dNx (dNx (m3 88 21)))) (k := 6) (by omega)
                  refine pw_iload_n 3 rfl dX10_byNumber_73 rfl ?_
                  refine pw_iconst dX10_byNumber_74 ?_
                  refine pw_icmp_ge 119 (by decide) dX10_byNumber_75 (by omega) (by omega) (fun c75 => ?_) (fun c75 => ?_)
                  · skip
                    have e4 : i = 4 := by omega
                    subst e4
                    have hN0 := nst_ok hB0.1 4 (by omega)
                    rw [h6] at hN0
                    have h940 : m3 94 c = 0 := by rw [← h6, nst_94 _ _ _ _ (by omega) (by omega)]; exact hB0.2
                    refine pw_iconst dX10_byNumber_119 ?_
                    refine pw_istore_n 3 rfl dX10_byNumber_120 (by decide) ?_
                    have lp121 : ∀ (kz4 : Nat) (i : Nat) (m4 : pM), 6 - (i : Int) < (kz4 : Int) → (i ≤ 6) → (ncd m3 c i = m4) → PW mi_X10_byNumber d n n (fun r ok' mem' => r = none ∧ ok = ok' ∧ byM mem c x = mem') 121 [(0, vr 88), (1, vi c), (2, vi x), (3, vi (i : Int))] [] n ok m4 := by
                      intro kz4
                      induction kz4 with
                      | zero =>
                        intro i m4 hk4 h7 h8
                        exact absurd hk4 (by omega)
                      | succ kz4 ih4 =>
                        intro i m4 hk4 h7 h8
                        have hnc := ncd_ok hN0.1 hN0.2 h940 i (by omega)
                        rw [h8] at hnc
                        obtain ⟨hPK, hNK, hCK⟩ := hnc
                        have d8 := dv_ran (dNx (m4 88 21)) (k := 4) (by omega)
                        have d9 := dv_ran (dNx (dNx (m4 88 21))) (k := 4) (by omega)
                        refine pw_iload_n 3 rfl dX10_byNumber_121 rfl ?_
                        refine pw_bipush dX10_byNumber_122 (by decide) ?_
                        refine pw_icmp_ge 276 (by decide) dX10_byNumber_124 (by omega) (by omega) (fun c124 => ?_) (fun c124 => ?_)
                        · skip
                          refine pw_vret dX10_byNumber_276 rfl rfl ?_
                          have e6 : i = 6 := by omega
                          subst e6
                          refine ⟨rfl, rfl, ?_⟩
                          unfold byM; rw [h6]; exact h8
                        · skip
                          refine pw_iload_n 3 rfl dX10_byNumber_127 rfl ?_
                          refine pw_if_ne 135 (by decide) dX10_byNumber_128 (by omega) (fun c128 => ?_) (fun c128 => ?_)
                          · skip
                            refine pw_aload_n 0 rfl dX10_byNumber_135 rfl ?_
                            refine pw_iconst dX10_byNumber_136 ?_
                            refine pw_callV (d' := d - 1) (As := [_]) (ci := 10) dX10_byNumber_137 ok_X10_draw kw_1350 rfl rfl (Of.o (by assumption)) (by omega) rfl (Nat.le_of_ble_eq_true rfl) (r_draw (d - 1) (by omega) n ok _ hU 4 (by omega)) (Nat.le_refl _) (Or.inl rfl) (fun r ok1 mem1 hq => ?_)
                            obtain ⟨rfl, rfl, rfl⟩ := hq
                            try simp only [wr_s, wr_wr]
                            refine pw_callS (d' := d - 1) (As := [_]) dX10_byNumber_140 ok_X10_seatBy kw_1355 (by omega) rfl (Nat.le_of_ble_eq_true rfl) (r_seatBy (d - 1) (by omega) n ok _ (dv (dNx (m4 88 21)) 4) (by omega)) (Nat.le_refl _) (Or.inl rfl) (fun r ok1 mem1 hq => ?_)
                            obtain ⟨rfl, rfl, rfl⟩ := hq
                            refine pw_istore dX10_byNumber_143 (by decide) ?_
                            refine pw_aload_n 0 rfl dX10_byNumber_145 rfl ?_
                            refine pw_iconst dX10_byNumber_146 ?_
                            refine pw_callV (d' := d - 1) (As := [_]) (ci := 10) dX10_byNumber_147 ok_X10_draw kw_1350 rfl rfl (Of.o (by assumption)) (by omega) rfl (Nat.le_of_ble_eq_true rfl) (r_draw (d - 1) (by omega) n ok _ hU 4 (by omega)) (Nat.le_refl _) (Or.inl rfl) (fun r ok1 mem1 hq => ?_)
                            obtain ⟨rfl, rfl, rfl⟩ := hq
                            try simp only [wr_s, wr_wr]
                            refine pw_callS (d' := d - 1) (As := [_]) dX10_byNumber_150 ok_X10_seatBy kw_1355 (by omega) rfl (Nat.le_of_ble_eq_true rfl) (r_seatBy (d - 1) (by omega) n ok _ (dv (dNx (dNx (m4 88 21))) 4) (by omega)) (Nat.le_refl _) (Or.inl rfl) (fun r ok1 mem1 hq => ?_)
                            obtain ⟨rfl, rfl, rfl⟩ := hq
                            refine pw_istore dX10_byNumber_153 (by decide) ?_
                            have hi0 : i ≠ 0 := by omega
                            have eX : cdX m4 i = dNx (m4 88 21) := if_neg hi0
                            have eA : cdA m4 i = sDrw (dv (dNx (m4 88 21)) 4) := if_neg hi0
                            have eL : cdL m4 i = sDrw (dv (dNx (dNx (m4 88 21))) 4) := by unfold cdL; rw [eX]
                            have d0 := dv_ran (dNx (m4 88 21)) (k := 4) (by omega)
                            have s0 := sDrw_ran d0.1 d0.2
                            have d1 := dv_ran (dNx (dNx (m4 88 21))) (k := 4) (by omega)
                            have s1 := sDrw_ran d1.1 d1.2
                            rw [← eL]
                            have hL : 0 ≤ cdL m4 i ∧ cdL m4 i ≤ 5 := by omega
                            have hNr := cdN_ran hPK hNK i
                            have h94 := hCK.1
                            refine pw_aload_n 0 rfl dX10_byNumber_155 rfl ?_
                            refine pw_gR 5 90 dX10_byNumber_156 cOk10 (by assumption) (by decide) kw_1070 (by decide) rfl ?_
                            refine pw_bipush dX10_byNumber_159 (by decide) ?_
                            refine pw_iload_n 1 rfl dX10_byNumber_161 rfl ?_
                            refine pw_imul dX10_byNumber_162 ?_
                            refine pw_iload dX10_byNumber_163 rfl ?_
                            refine pw_iadd dX10_byNumber_165 ?_
                            refine pw_iaload dX10_byNumber_166 (by assumption) (by omega) (by omega) (fun r166 => ?_)
                            rw [wr_a _ _ _ (by omega)] at r166 ⊢
                            refine pw_iconst dX10_byNumber_167 ?_
                            refine pw_icmp_ne 175 (by decide) dX10_byNumber_168 (by omega) (by omega) (fun c168 => ?_) (fun c168 => ?_)
                            · skip
                              refine pw_aload_n 0 rfl dX10_byNumber_175 rfl ?_
                              refine pw_gR 6 91 dX10_byNumber_176 cOk10 (by assumption) (by decide) kw_1071 (by decide) rfl ?_
                              refine pw_bipush dX10_byNumber_179 (by decide) ?_
                              refine pw_iload_n 1 rfl dX10_byNumber_181 rfl ?_
                              refine pw_imul dX10_byNumber_182 ?_
                              refine pw_iload dX10_byNumber_183 rfl ?_
                              refine pw_iadd dX10_byNumber_185 ?_
                              refine pw_iaload dX10_byNumber_186 (by assumption) (by omega) (by omega) (fun r186 => ?_)
                              rw [wr_a _ _ _ (by omega)] at r186 ⊢
                              refine pw_istore dX10_byNumber_187 (by decide) ?_
                              have eN : cdN m4 c i = (m4 91 (16 * c + cdL m4 i)) := if_neg c168
                              refine pw_bipush dX10_byNumber_189 (by decide) ?_
                              refine pw_iload_n 1 rfl dX10_byNumber_191 rfl ?_
                              refine pw_imul dX10_byNumber_192 ?_
                              refine pw_aload_n 0 rfl dX10_byNumber_193 rfl ?_
                              refine pw_iload_n 1 rfl dX10_byNumber_194 rfl ?_
                              refine pw_iload dX10_byNumber_195 rfl ?_
                              refine pw_iload dX10_byNumber_197 rfl ?_
                              refine pw_iload dX10_byNumber_199 rfl ?_
                              refine pw_callV (d' := d - 1) (As := [_, _, _, _]) (ci := 10) dX10_byNumber_201 ok_X10_conditionMore kw_1304 rfl rfl (Of.o (by assumption)) (by omega) rfl (Nat.le_of_ble_eq_true rfl) (r_conditionMore (d - 1) (by omega) n ok _ hU c (sDrw (dv (dNx (m4 88 21)) 4)) (cdL m4 i) (m4 91 (16 * c + cdL m4 i)) (by omega) (by omega) (by omega) (by omega) (by rw [wr_a _ _ _ (by omega)]; omega)) (Nat.le_refl _) (Or.inl rfl) (fun r ok1 m5 hq => ?_)
                              obtain ⟨rfl, rfl, em5⟩ := hq
                              have eM : cdM m4 c i = m5 := by rw [← em5]; unfold cdM; rw [eA, eX, eN]
                              rw [wr_a _ _ _ (by omega)]
                              refine pw_iadd dX10_byNumber_204 ?_
                              refine pw_istore dX10_byNumber_205 (by decide) ?_
                              refine pw_iconst dX10_byNumber_207 ?_
                              refine pw_istore dX10_byNumber_208 (by decide) ?_
                              have lp210 : ∀ (kz5 : Nat) (j : Nat) (m6 : pM), (m4 91 (16 * c + cdL m4 i)) - (j : Int) < (kz5 : Int) → ((j : Int) ≤ (m4 91 (16 * c + cdL m4 i))) → (trG (cdM m4 c i) (40 * c + m4 94 c) i (m4 91 (16 * c + cdL m4 i)) j = m6) → PW mi_X10_byNumber d n n (fun r ok' mem' => r = none ∧ ok = ok' ∧ byM mem c x = mem') 210 [(0, vr 88), (1, vi c), (2, vi x), (3, vi (i : Int)), (4, vi (sDrw (dv (dNx (m4 88 21)) 4))), (5, vi (cdL m4 i)), (6, vi (m4 91 (16 * c + cdL m4 i))), (7, vi (40 * c + m4 94 c)), (8, vi (j : Int))] [] n ok m6 := by
                                intro kz5
                                induction kz5 with
                                | zero =>
                                  intro j m6 hk5 hj hm6
                                  exact absurd hk5 (by omega)
                                | succ kz5 ih5 =>
                                  intro j m6 hk5 hj hm6
                                  refine pw_iload dX10_byNumber_210 rfl ?_
                                  refine pw_iload dX10_byNumber_212 rfl ?_
                                  refine pw_icmp_ge 270 (by decide) dX10_byNumber_214 (by omega) (by omega) (fun c214 => ?_) (fun c214 => ?_)
                                  · skip
                                    refine pw_iinc dX10_byNumber_270 rfl (by decide) ?_
                                    refine pw_goto 121 (by decide) dX10_byNumber_273 ?_
                                    exact pw_locs _ rfl (ih4 (i + 1) _ (by omega) (by omega) (by show cdS (ncd m3 c i) c i = _; rw [h8]; unfold cdS; rw [eN, show (m4 91 (16 * c + cdL m4 i)).toNat = j by omega]; exact hm6))
                                  · skip
                                    refine pw_aload_n 0 rfl dX10_byNumber_217 rfl ?_
                                    refine pw_gR 13 98 dX10_byNumber_218 cOk10 (by assumption) (by decide) kw_1078 (by decide) rfl ?_
                                    refine pw_bipush dX10_byNumber_221 (by decide) ?_
                                    refine pw_iload dX10_byNumber_223 rfl ?_
                                    refine pw_imul dX10_byNumber_225 ?_
                                    refine pw_iload dX10_byNumber_226 rfl ?_
                                    refine pw_iadd dX10_byNumber_228 ?_
                                    refine pw_iload_n 3 rfl dX10_byNumber_229 rfl ?_
                                    refine pw_if_ne 250 (by decide) dX10_byNumber_230 (by omega) (fun c230 => ?_) (fun c230 => ?_)
                                    · skip
                                      refine pw_aload_n 0 rfl dX10_byNumber_250 rfl ?_
                                      refine pw_iconst dX10_byNumber_251 ?_
                                      refine pw_callV (d' := d - 1) (As := [_]) (ci := 10) dX10_byNumber_252 ok_X10_draw kw_1350 rfl rfl (Of.o (by assumption)) (by omega) rfl (Nat.le_of_ble_eq_true rfl) (r_draw (d - 1) (by omega) n ok _ hU 3 (by omega)) (Nat.le_refl _) (Or.inl rfl) (fun r ok1 mem1 hq => ?_)
                                      obtain ⟨rfl, rfl, rfl⟩ := hq
                                      have d3 := dv_ran (dNx (m6 88 21)) (k := 3) (by omega)
                                      refine pw_if_eq 262 (by decide) dX10_byNumber_255 (by omega) (fun c255 => ?_) (fun c255 => ?_)
                                      · skip
                                        refine pw_iconst dX10_byNumber_262 ?_
                                        refine pw_iastore dX10_byNumber_263 (by assumption) (by omega) (by omega) (by omega) ?_
                                        refine pw_iinc dX10_byNumber_264 rfl (by decide) ?_
                                        refine pw_goto 210 (by decide) dX10_byNumber_267 ?_
                                        exact pw_locs _ rfl (ih5 (j + 1) _ (by omega) (by omega) (by show (if i = 0 then _ else _ : pM) = _; rw [if_neg (by omega), hm6, if_pos c255]))
                                      · skip
                                        refine pw_iconst dX10_byNumber_258 ?_
                                        refine pw_goto 263 (by decide) dX10_byNumber_259 ?_
                                        refine pw_iastore dX10_byNumber_263 (by assumption) (by omega) (by omega) (by omega) ?_
                                        refine pw_iinc dX10_byNumber_264 rfl (by decide) ?_
                                        refine pw_goto 210 (by decide) dX10_byNumber_267 ?_
                                        exact pw_locs _ rfl (ih5 (j + 1) _ (by omega) (by omega) (by show (if i = 0 then _ else _ : pM) = _; rw [if_neg (by omega), hm6, if_neg c255]))
                                    · skip
                                      refine pw_iload dX10_byNumber_233 rfl ?_
                                      refine pw_iload dX10_byNumber_235 rfl ?_
                                      refine pw_iconst dX10_byNumber_237 ?_
                                      refine pw_isub dX10_byNumber_238 ?_
                                      refine pw_icmp_ne 246 (by decide) dX10_byNumber_239 (by omega) (by omega) (fun c239 => ?_) (fun c239 => ?_)
                                      · skip
                                        refine pw_iconst dX10_byNumber_246 ?_
                                        refine pw_goto 263 (by decide) dX10_byNumber_247 ?_
                                        refine pw_iastore dX10_byNumber_263 (by assumption) (by omega) (by omega) (by omega) ?_
                                        refine pw_iinc dX10_byNumber_264 rfl (by decide) ?_
                                        refine pw_goto 210 (by decide) dX10_byNumber_267 ?_
                                        exact pw_locs _ rfl (ih5 (j + 1) _ (by omega) (by omega) (by show (if i = 0 then _ else _ : pM) = _; rw [if_pos (by omega), hm6, if_neg (by omega)]))
                                      · skip
                                        refine pw_iconst dX10_byNumber_242 ?_
                                        refine pw_goto 263 (by decide) dX10_byNumber_243 ?_
                                        refine pw_iastore dX10_byNumber_263 (by assumption) (by omega) (by omega) (by omega) ?_
                                        refine pw_iinc dX10_byNumber_264 rfl (by decide) ?_
                                        refine pw_goto 210 (by decide) dX10_byNumber_267 ?_
                                        exact pw_locs _ rfl (ih5 (j + 1) _ (by omega) (by omega) (by show (if i = 0 then _ else _ : pM) = _; rw [if_pos (by omega), hm6, if_pos (by omega)]))
                              exact pw_locs _ rfl (lp210 (((m4 91 (16 * c + cdL m4 i)) : Int).toNat + 1) 0 m5 (by omega) (by omega) eM)
                            · skip
                              refine pw_iconst dX10_byNumber_171 ?_
                              refine pw_goto 187 (by decide) dX10_byNumber_172 ?_
                              refine pw_istore dX10_byNumber_187 (by decide) ?_
                              have eN : cdN m4 c i = 2 := if_pos c168
                              refine pw_bipush dX10_byNumber_189 (by decide) ?_
                              refine pw_iload_n 1 rfl dX10_byNumber_191 rfl ?_
                              refine pw_imul dX10_byNumber_192 ?_
                              refine pw_aload_n 0 rfl dX10_byNumber_193 rfl ?_
                              refine pw_iload_n 1 rfl dX10_byNumber_194 rfl ?_
                              refine pw_iload dX10_byNumber_195 rfl ?_
                              refine pw_iload dX10_byNumber_197 rfl ?_
                              refine pw_iload dX10_byNumber_199 rfl ?_
                              refine pw_callV (d' := d - 1) (As := [_, _, _, _]) (ci := 10) dX10_byNumber_201 ok_X10_conditionMore kw_1304 rfl rfl (Of.o (by assumption)) (by omega) rfl (Nat.le_of_ble_eq_true rfl) (r_conditionMore (d - 1) (by omega) n ok _ hU c (sDrw (dv (dNx (m4 88 21)) 4)) (cdL m4 i) 2 (by omega) (by omega) (by omega) (by omega) (by rw [wr_a _ _ _ (by omega)]; omega)) (Nat.le_refl _) (Or.inl rfl) (fun r ok1 m5 hq => ?_)
                              obtain ⟨rfl, rfl, em5⟩ := hq
                              have eM : cdM m4 c i = m5 := by rw [← em5]; unfold cdM; rw [eA, eX, eN]
                              rw [wr_a _ _ _ (by omega)]
                              refine pw_iadd dX10_byNumber_204 ?_
                              refine pw_istore dX10_byNumber_205 (by decide) ?_
                              refine pw_iconst dX10_byNumber_207 ?_
                              refine pw_istore dX10_byNumber_208 (by decide) ?_
                              have lp210 : ∀ (kz5 : Nat) (j : Nat) (m6 : pM), 2 - (j : Int) < (kz5 : Int) → ((j : Int) ≤ 2) → (trG (cdM m4 c i) (40 * c + m4 94 c) i 2 j = m6) → PW mi_X10_byNumber d n n (fun r ok' mem' => r = none ∧ ok = ok' ∧ byM mem c x = mem') 210 [(0, vr 88), (1, vi c), (2, vi x), (3, vi (i : Int)), (4, vi (sDrw (dv (dNx (m4 88 21)) 4))), (5, vi (cdL m4 i)), (6, vi 2), (7, vi (40 * c + m4 94 c)), (8, vi (j : Int))] [] n ok m6 := by
                                intro kz5
                                induction kz5 with
                                | zero =>
                                  intro j m6 hk5 hj hm6
                                  exact absurd hk5 (by omega)
                                | succ kz5 ih5 =>
                                  intro j m6 hk5 hj hm6
                                  refine pw_iload dX10_byNumber_210 rfl ?_
                                  refine pw_iload dX10_byNumber_212 rfl ?_
                                  refine pw_icmp_ge 270 (by decide) dX10_byNumber_214 (by omega) (by omega) (fun c214 => ?_) (fun c214 => ?_)
                                  · skip
                                    refine pw_iinc dX10_byNumber_270 rfl (by decide) ?_
                                    refine pw_goto 121 (by decide) dX10_byNumber_273 ?_
                                    exact pw_locs _ rfl (ih4 (i + 1) _ (by omega) (by omega) (by show cdS (ncd m3 c i) c i = _; rw [h8]; unfold cdS; rw [eN, show ((2 : Int)).toNat = j by omega]; exact hm6))
                                  · skip
                                    refine pw_aload_n 0 rfl dX10_byNumber_217 rfl ?_
                                    refine pw_gR 13 98 dX10_byNumber_218 cOk10 (by assumption) (by decide) kw_1078 (by decide) rfl ?_
                                    refine pw_bipush dX10_byNumber_221 (by decide) ?_
                                    refine pw_iload dX10_byNumber_223 rfl ?_
                                    refine pw_imul dX10_byNumber_225 ?_
                                    refine pw_iload dX10_byNumber_226 rfl ?_
                                    refine pw_iadd dX10_byNumber_228 ?_
                                    refine pw_iload_n 3 rfl dX10_byNumber_229 rfl ?_
                                    refine pw_if_ne 250 (by decide) dX10_byNumber_230 (by omega) (fun c230 => ?_) (fun c230 => ?_)
                                    · skip
                                      refine pw_aload_n 0 rfl dX10_byNumber_250 rfl ?_
                                      refine pw_iconst dX10_byNumber_251 ?_
                                      refine pw_callV (d' := d - 1) (As := [_]) (ci := 10) dX10_byNumber_252 ok_X10_draw kw_1350 rfl rfl (Of.o (by assumption)) (by omega) rfl (Nat.le_of_ble_eq_true rfl) (r_draw (d - 1) (by omega) n ok _ hU 3 (by omega)) (Nat.le_refl _) (Or.inl rfl) (fun r ok1 mem1 hq => ?_)
                                      obtain ⟨rfl, rfl, rfl⟩ := hq
                                      have d3 := dv_ran (dNx (m6 88 21)) (k := 3) (by omega)
                                      refine pw_if_eq 262 (by decide) dX10_byNumber_255 (by omega) (fun c255 => ?_) (fun c255 => ?_)
                                      · skip
                                        refine pw_iconst dX10_byNumber_262 ?_
                                        refine pw_iastore dX10_byNumber_263 (by assumption) (by omega) (by omega) (by omega) ?_
                                        refine pw_iinc dX10_byNumber_264 rfl (by decide) ?_
                                        refine pw_goto 210 (by decide) dX10_byNumber_267 ?_
                                        exact pw_locs _ rfl (ih5 (j + 1) _ (by omega) (by omega) (by show (if i = 0 then _ else _ : pM) = _; rw [if_neg (by omega), hm6, if_pos c255]))
                                      · skip
                                        refine pw_iconst dX10_byNumber_258 ?_
                                        refine pw_goto 263 (by decide) dX10_byNumber_259 ?_
                                        refine pw_iastore dX10_byNumber_263 (by assumption) (by omega) (by omega) (by omega) ?_
                                        refine pw_iinc dX10_byNumber_264 rfl (by decide) ?_
                                        refine pw_goto 210 (by decide) dX10_byNumber_267 ?_
                                        exact pw_locs _ rfl (ih5 (j + 1) _ (by omega) (by omega) (by show (if i = 0 then _ else _ : pM) = _; rw [if_neg (by omega), hm6, if_neg c255]))
                                    · skip
                                      refine pw_iload dX10_byNumber_233 rfl ?_
                                      refine pw_iload dX10_byNumber_235 rfl ?_
                                      refine pw_iconst dX10_byNumber_237 ?_
                                      refine pw_isub dX10_byNumber_238 ?_
                                      refine pw_icmp_ne 246 (by decide) dX10_byNumber_239 (by omega) (by omega) (fun c239 => ?_) (fun c239 => ?_)
                                      · skip
                                        refine pw_iconst dX10_byNumber_246 ?_
                                        refine pw_goto 263 (by decide) dX10_byNumber_247 ?_
                                        refine pw_iastore dX10_byNumber_263 (by assumption) (by omega) (by omega) (by omega) ?_
                                        refine pw_iinc dX10_byNumber_264 rfl (by decide) ?_
                                        refine pw_goto 210 (by decide) dX10_byNumber_267 ?_
                                        exact pw_locs _ rfl (ih5 (j + 1) _ (by omega) (by omega) (by show (if i = 0 then _ else _ : pM) = _; rw [if_pos (by omega), hm6, if_neg (by omega)]))
                                      · skip
                                        refine pw_iconst dX10_byNumber_242 ?_
                                        refine pw_goto 263 (by decide) dX10_byNumber_243 ?_
                                        refine pw_iastore dX10_byNumber_263 (by assumption) (by omega) (by omega) (by omega) ?_
                                        refine pw_iinc dX10_byNumber_264 rfl (by decide) ?_
                                        refine pw_goto 210 (by decide) dX10_byNumber_267 ?_
                                        exact pw_locs _ rfl (ih5 (j + 1) _ (by omega) (by omega) (by show (if i = 0 then _ else _ : pM) = _; rw [if_pos (by omega), hm6, if_pos (by omega)]))
                              exact pw_locs _ rfl (lp210 ((2 : Int).toNat + 1) 0 m5 (by omega) (by omega) eM)
                          · skip
                            refine pw_iconst dX10_byNumber_131 ?_
                            refine pw_goto 143 (by decide) dX10_byNumber_132 ?_
                            refine pw_istore dX10_byNumber_143 (by decide) ?_
                            refine pw_aload_n 0 rfl dX10_byNumber_145 rfl ?_
                            refine pw_iconst dX10_byNumber_146 ?_
                            refine pw_callV (d' := d - 1) (As := [_]) (ci := 10) dX10_byNumber_147 ok_X10_draw kw_1350 rfl rfl (Of.o (by assumption)) (by omega) rfl (Nat.le_of_ble_eq_true rfl) (r_draw (d - 1) (by omega) n ok _ hU 4 (by omega)) (Nat.le_refl _) (Or.inl rfl) (fun r ok1 mem1 hq => ?_)
                            obtain ⟨rfl, rfl, rfl⟩ := hq
                            try simp only [wr_s, wr_wr]
                            refine pw_callS (d' := d - 1) (As := [_]) dX10_byNumber_150 ok_X10_seatBy kw_1355 (by omega) rfl (Nat.le_of_ble_eq_true rfl) (r_seatBy (d - 1) (by omega) n ok _ (dv (dNx (m4 88 21)) 4) (by omega)) (Nat.le_refl _) (Or.inl rfl) (fun r ok1 mem1 hq => ?_)
                            obtain ⟨rfl, rfl, rfl⟩ := hq
                            refine pw_istore dX10_byNumber_153 (by decide) ?_
                            have hi0 : i = 0 := by omega
                            have eX : cdX m4 i = m4 88 21 := if_pos hi0
                            have eA : cdA m4 i = -1 := if_pos hi0
                            have eL : cdL m4 i = sDrw (dv (dNx (m4 88 21)) 4) := by unfold cdL; rw [eX]
                            have d1 := dv_ran (dNx (m4 88 21)) (k := 4) (by omega)
                            have s1 := sDrw_ran d1.1 d1.2
                            rw [← eL]
                            have hL : 0 ≤ cdL m4 i ∧ cdL m4 i ≤ 5 := by omega
                            have hNr := cdN_ran hPK hNK i
                            have h94 := hCK.1
                            refine pw_aload_n 0 rfl dX10_byNumber_155 rfl ?_
                            refine pw_gR 5 90 dX10_byNumber_156 cOk10 (by assumption) (by decide) kw_1070 (by decide) rfl ?_
                            refine pw_bipush dX10_byNumber_159 (by decide) ?_
                            refine pw_iload_n 1 rfl dX10_byNumber_161 rfl ?_
                            refine pw_imul dX10_byNumber_162 ?_
                            refine pw_iload dX10_byNumber_163 rfl ?_
                            refine pw_iadd dX10_byNumber_165 ?_
                            refine pw_iaload dX10_byNumber_166 (by assumption) (by omega) (by omega) (fun r166 => ?_)
                            rw [wr_a _ _ _ (by omega)] at r166 ⊢
                            refine pw_iconst dX10_byNumber_167 ?_
                            refine pw_icmp_ne 175 (by decide) dX10_byNumber_168 (by omega) (by omega) (fun c168 => ?_) (fun c168 => ?_)
                            · skip
                              refine pw_aload_n 0 rfl dX10_byNumber_175 rfl ?_
                              refine pw_gR 6 91 dX10_byNumber_176 cOk10 (by assumption) (by decide) kw_1071 (by decide) rfl ?_
                              refine pw_bipush dX10_byNumber_179 (by decide) ?_
                              refine pw_iload_n 1 rfl dX10_byNumber_181 rfl ?_
                              refine pw_imul dX10_byNumber_182 ?_
                              refine pw_iload dX10_byNumber_183 rfl ?_
                              refine pw_iadd dX10_byNumber_185 ?_
                              refine pw_iaload dX10_byNumber_186 (by assumption) (by omega) (by omega) (fun r186 => ?_)
                              rw [wr_a _ _ _ (by omega)] at r186 ⊢
                              refine pw_istore dX10_byNumber_187 (by decide) ?_
                              have eN : cdN m4 c i = (m4 91 (16 * c + cdL m4 i)) := if_neg c168
                              refine pw_bipush dX10_byNumber_189 (by decide) ?_
                              refine pw_iload_n 1 rfl dX10_byNumber_191 rfl ?_
                              refine pw_imul dX10_byNumber_192 ?_
                              refine pw_aload_n 0 rfl dX10_byNumber_193 rfl ?_
                              refine pw_iload_n 1 rfl dX10_byNumber_194 rfl ?_
                              refine pw_iload dX10_byNumber_195 rfl ?_
                              refine pw_iload dX10_byNumber_197 rfl ?_
                              refine pw_iload dX10_byNumber_199 rfl ?_
                              refine pw_callV (d' := d - 1) (As := [_, _, _, _]) (ci := 10) dX10_byNumber_201 ok_X10_conditionMore kw_1304 rfl rfl (Of.o (by assumption)) (by omega) rfl (Nat.le_of_ble_eq_true rfl) (r_conditionMore (d - 1) (by omega) n ok _ hU c (-1) (cdL m4 i) (m4 91 (16 * c + cdL m4 i)) (by omega) (by omega) (by omega) (by omega) (by rw [wr_a _ _ _ (by omega)]; omega)) (Nat.le_refl _) (Or.inl rfl) (fun r ok1 m5 hq => ?_)
                              obtain ⟨rfl, rfl, em5⟩ := hq
                              have eM : cdM m4 c i = m5 := by rw [← em5]; unfold cdM; rw [eA, eX, eN]
                              rw [wr_a _ _ _ (by omega)]
                              refine pw_iadd dX10_byNumber_204 ?_
                              refine pw_istore dX10_byNumber_205 (by decide) ?_
                              refine pw_iconst dX10_byNumber_207 ?_
                              refine pw_istore dX10_byNumber_208 (by decide) ?_
                              have lp210 : ∀ (kz5 : Nat) (j : Nat) (m6 : pM), (m4 91 (16 * c + cdL m4 i)) - (j : Int) < (kz5 : Int) → ((j : Int) ≤ (m4 91 (16 * c + cdL m4 i))) → (trG (cdM m4 c i) (40 * c + m4 94 c) i (m4 91 (16 * c + cdL m4 i)) j = m6) → PW mi_X10_byNumber d n n (fun r ok' mem' => r = none ∧ ok = ok' ∧ byM mem c x = mem') 210 [(0, vr 88), (1, vi c), (2, vi x), (3, vi (i : Int)), (4, vi (-1)), (5, vi (cdL m4 i)), (6, vi (m4 91 (16 * c + cdL m4 i))), (7, vi (40 * c + m4 94 c)), (8, vi (j : Int))] [] n ok m6 := by
                                intro kz5
                                induction kz5 with
                                | zero =>
                                  intro j m6 hk5 hj hm6
                                  exact absurd hk5 (by omega)
                                | succ kz5 ih5 =>
                                  intro j m6 hk5 hj hm6
                                  refine pw_iload dX10_byNumber_210 rfl ?_
                                  refine pw_iload dX10_byNumber_212 rfl ?_
                                  refine pw_icmp_ge 270 (by decide) dX10_byNumber_214 (by omega) (by omega) (fun c214 => ?_) (fun c214 => ?_)
                                  · skip
                                    refine pw_iinc dX10_byNumber_270 rfl (by decide) ?_
                                    refine pw_goto 121 (by decide) dX10_byNumber_273 ?_
                                    exact pw_locs _ rfl (ih4 (i + 1) _ (by omega) (by omega) (by show cdS (ncd m3 c i) c i = _; rw [h8]; unfold cdS; rw [eN, show (m4 91 (16 * c + cdL m4 i)).toNat = j by omega]; exact hm6))
                                  · skip
                                    refine pw_aload_n 0 rfl dX10_byNumber_217 rfl ?_
                                    refine pw_gR 13 98 dX10_byNumber_218 cOk10 (by assumption) (by decide) kw_1078 (by decide) rfl ?_
                                    refine pw_bipush dX10_byNumber_221 (by decide) ?_
                                    refine pw_iload dX10_byNumber_223 rfl ?_
                                    refine pw_imul dX10_byNumber_225 ?_
                                    refine pw_iload dX10_byNumber_226 rfl ?_
                                    refine pw_iadd dX10_byNumber_228 ?_
                                    refine pw_iload_n 3 rfl dX10_byNumber_229 rfl ?_
                                    refine pw_if_ne 250 (by decide) dX10_byNumber_230 (by omega) (fun c230 => ?_) (fun c230 => ?_)
                                    · skip
                                      refine pw_aload_n 0 rfl dX10_byNumber_250 rfl ?_
                                      refine pw_iconst dX10_byNumber_251 ?_
                                      refine pw_callV (d' := d - 1) (As := [_]) (ci := 10) dX10_byNumber_252 ok_X10_draw kw_1350 rfl rfl (Of.o (by assumption)) (by omega) rfl (Nat.le_of_ble_eq_true rfl) (r_draw (d - 1) (by omega) n ok _ hU 3 (by omega)) (Nat.le_refl _) (Or.inl rfl) (fun r ok1 mem1 hq => ?_)
                                      obtain ⟨rfl, rfl, rfl⟩ := hq
                                      have d3 := dv_ran (dNx (m6 88 21)) (k := 3) (by omega)
                                      refine pw_if_eq 262 (by decide) dX10_byNumber_255 (by omega) (fun c255 => ?_) (fun c255 => ?_)
                                      · skip
                                        refine pw_iconst dX10_byNumber_262 ?_
                                        refine pw_iastore dX10_byNumber_263 (by assumption) (by omega) (by omega) (by omega) ?_
                                        refine pw_iinc dX10_byNumber_264 rfl (by decide) ?_
                                        refine pw_goto 210 (by decide) dX10_byNumber_267 ?_
                                        exact pw_locs _ rfl (ih5 (j + 1) _ (by omega) (by omega) (by show (if i = 0 then _ else _ : pM) = _; rw [if_neg (by omega), hm6, if_pos c255]))
                                      · skip
                                        refine pw_iconst dX10_byNumber_258 ?_
                                        refine pw_goto 263 (by decide) dX10_byNumber_259 ?_
                                        refine pw_iastore dX10_byNumber_263 (by assumption) (by omega) (by omega) (by omega) ?_
                                        refine pw_iinc dX10_byNumber_264 rfl (by decide) ?_
                                        refine pw_goto 210 (by decide) dX10_byNumber_267 ?_
                                        exact pw_locs _ rfl (ih5 (j + 1) _ (by omega) (by omega) (by show (if i = 0 then _ else _ : pM) = _; rw [if_neg (by omega), hm6, if_neg c255]))
                                    · skip
                                      refine pw_iload dX10_byNumber_233 rfl ?_
                                      refine pw_iload dX10_byNumber_235 rfl ?_
                                      refine pw_iconst dX10_byNumber_237 ?_
                                      refine pw_isub dX10_byNumber_238 ?_
                                      refine pw_icmp_ne 246 (by decide) dX10_byNumber_239 (by omega) (by omega) (fun c239 => ?_) (fun c239 => ?_)
                                      · skip
                                        refine pw_iconst dX10_byNumber_246 ?_
                                        refine pw_goto 263 (by decide) dX10_byNumber_247 ?_
                                        refine pw_iastore dX10_byNumber_263 (by assumption) (by omega) (by omega) (by omega) ?_
                                        refine pw_iinc dX10_byNumber_264 rfl (by decide) ?_
                                        refine pw_goto 210 (by decide) dX10_byNumber_267 ?_
                                        exact pw_locs _ rfl (ih5 (j + 1) _ (by omega) (by omega) (by show (if i = 0 then _ else _ : pM) = _; rw [if_pos (by omega), hm6, if_neg (by omega)]))
                                      · skip
                                        refine pw_iconst dX10_byNumber_242 ?_
                                        refine pw_goto 263 (by decide) dX10_byNumber_243 ?_
                                        refine pw_iastore dX10_byNumber_263 (by assumption) (by omega) (by omega) (by omega) ?_
                                        refine pw_iinc dX10_byNumber_264 rfl (by decide) ?_
                                        refine pw_goto 210 (by decide) dX10_byNumber_267 ?_
                                        exact pw_locs _ rfl (ih5 (j + 1) _ (by omega) (by omega) (by show (if i = 0 then _ else _ : pM) = _; rw [if_pos (by omega), hm6, if_pos (by omega)]))
                              exact pw_locs _ rfl (lp210 (((m4 91 (16 * c + cdL m4 i)) : Int).toNat + 1) 0 m5 (by omega) (by omega) eM)
                            · skip
                              refine pw_iconst dX10_byNumber_171 ?_
                              refine pw_goto 187 (by decide) dX10_byNumber_172 ?_
                              refine pw_istore dX10_byNumber_187 (by decide) ?_
                              have eN : cdN m4 c i = 2 := if_pos c168
                              refine pw_bipush dX10_byNumber_189 (by decide) ?_
                              refine pw_iload_n 1 rfl dX10_byNumber_191 rfl ?_
                              refine pw_imul dX10_byNumber_192 ?_
                              refine pw_aload_n 0 rfl dX10_byNumber_193 rfl ?_
                              refine pw_iload_n 1 rfl dX10_byNumber_194 rfl ?_
                              refine pw_iload dX10_byNumber_195 rfl ?_
                              refine pw_iload dX10_byNumber_197 rfl ?_
                              refine pw_iload dX10_byNumber_199 rfl ?_
                              refine pw_callV (d' := d - 1) (As := [_, _, _, _]) (ci := 10) dX10_byNumber_201 ok_X10_conditionMore kw_1304 rfl rfl (Of.o (by assumption)) (by omega) rfl (Nat.le_of_ble_eq_true rfl) (r_conditionMore (d - 1) (by omega) n ok _ hU c (-1) (cdL m4 i) 2 (by omega) (by omega) (by omega) (by omega) (by rw [wr_a _ _ _ (by omega)]; omega)) (Nat.le_refl _) (Or.inl rfl) (fun r ok1 m5 hq => ?_)
                              obtain ⟨rfl, rfl, em5⟩ := hq
                              have eM : cdM m4 c i = m5 := by rw [← em5]; unfold cdM; rw [eA, eX, eN]
                              rw [wr_a _ _ _ (by omega)]
                              refine pw_iadd dX10_byNumber_204 ?_
                              refine pw_istore dX10_byNumber_205 (by decide) ?_
                              refine pw_iconst dX10_byNumber_207 ?_
                              refine pw_istore dX10_byNumber_208 (by decide) ?_
                              have lp210 : ∀ (kz5 : Nat) (j : Nat) (m6 : pM), 2 - (j : Int) < (kz5 : Int) → ((j : Int) ≤ 2) → (trG (cdM m4 c i) (40 * c + m4 94 c) i 2 j = m6) → PW mi_X10_byNumber d n n (fun r ok' mem' => r = none ∧ ok = ok' ∧ byM mem c x = mem') 210 [(0, vr 88), (1, vi c), (2, vi x), (3, vi (i : Int)), (4, vi (-1)), (5, vi (cdL m4 i)), (6, vi 2), (7, vi (40 * c + m4 94 c)), (8, vi (j : Int))] [] n ok m6 := by
                                intro kz5
                                induction kz5 with
                                | zero =>
                                  intro j m6 hk5 hj hm6
                                  exact absurd hk5 (by omega)
                                | succ kz5 ih5 =>
                                  intro j m6 hk5 hj hm6
                                  refine pw_iload dX10_byNumber_210 rfl ?_
                                  refine pw_iload dX10_byNumber_212 rfl ?_
                                  refine pw_icmp_ge 270 (by decide) dX10_byNumber_214 (by omega) (by omega) (fun c214 => ?_) (fun c214 => ?_)
                                  · skip
                                    refine pw_iinc dX10_byNumber_270 rfl (by decide) ?_
                                    refine pw_goto 121 (by decide) dX10_byNumber_273 ?_
                                    exact pw_locs _ rfl (ih4 (i + 1) _ (by omega) (by omega) (by show cdS (ncd m3 c i) c i = _; rw [h8]; unfold cdS; rw [eN, show ((2 : Int)).toNat = j by omega]; exact hm6))
                                  · skip
                                    refine pw_aload_n 0 rfl dX10_byNumber_217 rfl ?_
                                    refine pw_gR 13 98 dX10_byNumber_218 cOk10 (by assumption) (by decide) kw_1078 (by decide) rfl ?_
                                    refine pw_bipush dX10_byNumber_221 (by decide) ?_
                                    refine pw_iload dX10_byNumber_223 rfl ?_
                                    refine pw_imul dX10_byNumber_225 ?_
                                    refine pw_iload dX10_byNumber_226 rfl ?_
                                    refine pw_iadd dX10_byNumber_228 ?_
                                    refine pw_iload_n 3 rfl dX10_byNumber_229 rfl ?_
                                    refine pw_if_ne 250 (by decide) dX10_byNumber_230 (by omega) (fun c230 => ?_) (fun c230 => ?_)
                                    · skip
                                      refine pw_aload_n 0 rfl dX10_byNumber_250 rfl ?_
                                      refine pw_iconst dX10_byNumber_251 ?_
                                      refine pw_callV (d' := d - 1) (As := [_]) (ci := 10) dX10_byNumber_252 ok_X10_draw kw_1350 rfl rfl (Of.o (by assumption)) (by omega) rfl (Nat.le_of_ble_eq_true rfl) (r_draw (d - 1) (by omega) n ok _ hU 3 (by omega)) (Nat.le_refl _) (Or.inl rfl) (fun r ok1 mem1 hq => ?_)
                                      obtain ⟨rfl, rfl, rfl⟩ := hq
                                      have d3 := dv_ran (dNx (m6 88 21)) (k := 3) (by omega)
                                      refine pw_if_eq 262 (by decide) dX10_byNumber_255 (by omega) (fun c255 => ?_) (fun c255 => ?_)
                                      · skip
                                        refine pw_iconst dX10_byNumber_262 ?_
                                        refine pw_iastore dX10_byNumber_263 (by assumption) (by omega) (by omega) (by omega) ?_
                                        refine pw_iinc dX10_byNumber_264 rfl (by decide) ?_
                                        refine pw_goto 210 (by decide) dX10_byNumber_267 ?_
                                        exact pw_locs _ rfl (ih5 (j + 1) _ (by omega) (by omega) (by show (if i = 0 then _ else _ : pM) = _; rw [if_neg (by omega), hm6, if_pos c255]))
                                      · skip
                                        refine pw_iconst dX10_byNumber_258 ?_
                                        refine pw_goto 263 (by decide) dX10_byNumber_259 ?_
                                        refine pw_iastore dX10_byNumber_263 (by assumption) (by omega) (by omega) (by omega) ?_
                                        refine pw_iinc dX10_byNumber_264 rfl (by decide) ?_
                                        refine pw_goto 210 (by decide) dX10_byNumber_267 ?_
                                        exact pw_locs _ rfl (ih5 (j + 1) _ (by omega) (by omega) (by show (if i = 0 then _ else _ : pM) = _; rw [if_neg (by omega), hm6, if_neg c255]))
                                    · skip
                                      refine pw_iload dX10_byNumber_233 rfl ?_
                                      refine pw_iload dX10_byNumber_235 rfl ?_
                                      refine pw_iconst dX10_byNumber_237 ?_
                                      refine pw_isub dX10_byNumber_238 ?_
                                      refine pw_icmp_ne 246 (by decide) dX10_byNumber_239 (by omega) (by omega) (fun c239 => ?_) (fun c239 => ?_)
                                      · skip
                                        refine pw_iconst dX10_byNumber_246 ?_
                                        refine pw_goto 263 (by decide) dX10_byNumber_247 ?_
                                        refine pw_iastore dX10_byNumber_263 (by assumption) (by omega) (by omega) (by omega) ?_
                                        refine pw_iinc dX10_byNumber_264 rfl (by decide) ?_
                                        refine pw_goto 210 (by decide) dX10_byNumber_267 ?_
                                        exact pw_locs _ rfl (ih5 (j + 1) _ (by omega) (by omega) (by show (if i = 0 then _ else _ : pM) = _; rw [if_pos (by omega), hm6, if_neg (by omega)]))
                                      · skip
                                        refine pw_iconst dX10_byNumber_242 ?_
                                        refine pw_goto 263 (by decide) dX10_byNumber_243 ?_
                                        refine pw_iastore dX10_byNumber_263 (by assumption) (by omega) (by omega) (by omega) ?_
                                        refine pw_iinc dX10_byNumber_264 rfl (by decide) ?_
                                        refine pw_goto 210 (by decide) dX10_byNumber_267 ?_
                                        exact pw_locs _ rfl (ih5 (j + 1) _ (by omega) (by omega) (by show (if i = 0 then _ else _ : pM) = _; rw [if_pos (by omega), hm6, if_pos (by omega)]))
                              exact pw_locs _ rfl (lp210 ((2 : Int).toNat + 1) 0 m5 (by omega) (by omega) eM)
                    exact pw_locs _ rfl (lp121 7 0 m3 (by omega) (by omega) rfl)
                  · skip
                    have sk := sDrw_ran (j := (i : Int)) (by omega) (by omega)
                    refine pw_aload_n 0 rfl dX10_byNumber_78 rfl ?_
                    refine pw_iconst dX10_byNumber_79 ?_
                    refine pw_callV (d' := d - 1) (As := [_]) (ci := 10) dX10_byNumber_80 ok_X10_draw kw_1350 rfl rfl (Of.o (by assumption)) (by omega) rfl (Nat.le_of_ble_eq_true rfl) (r_draw (d - 1) (by omega) n ok _ hU 5 (by omega)) (Nat.le_refl _) (Or.inl rfl) (fun r ok1 mem1 hq => ?_)
                    obtain ⟨rfl, rfl, rfl⟩ := hq
                    try simp only [wr_s, wr_wr]
                    refine pw_istore dX10_byNumber_83 (by decide) ?_
                    refine pw_iconst dX10_byNumber_85 ?_
                    refine pw_aload_n 0 rfl dX10_byNumber_86 rfl ?_
                    refine pw_iconst dX10_byNumber_87 ?_
                    refine pw_callV (d' := d - 1) (As := [_]) (ci := 10) dX10_byNumber_88 ok_X10_draw kw_1350 rfl rfl (Of.o (by assumption)) (by omega) rfl (Nat.le_of_ble_eq_true rfl) (r_draw (d - 1) (by omega) n ok _ hU 3 (by omega)) (Nat.le_refl _) (Or.inl rfl) (fun r ok1 mem1 hq => ?_)
                    obtain ⟨rfl, rfl, rfl⟩ := hq
                    try simp only [wr_s, wr_wr]
                    refine pw_iadd dX10_byNumber_91 ?_
                    refine pw_istore dX10_byNumber_92 (by decide) ?_
                    refine pw_aload_n 0 rfl dX10_byNumber_94 rfl ?_
                    refine pw_iload_n 1 rfl dX10_byNumber_95 rfl ?_
                    refine pw_iload_n 3 rfl dX10_byNumber_96 rfl ?_
                    refine pw_callS (d' := d - 1) (As := [_]) dX10_byNumber_97 ok_X10_seatBy kw_1355 (by omega) rfl (Nat.le_of_ble_eq_true rfl) (r_seatBy (d - 1) (by omega) n ok _ (i : Int) (by omega)) (Nat.le_refl _) (Or.inl rfl) (fun r ok1 mem1 hq => ?_)
                    obtain ⟨rfl, rfl, rfl⟩ := hq
                    refine pw_iload dX10_byNumber_100 rfl ?_
                    refine pw_iload dX10_byNumber_102 rfl ?_
                    refine pw_aload_n 0 rfl dX10_byNumber_104 rfl ?_
                    refine pw_bipush dX10_byNumber_105 (by decide) ?_
                    refine pw_callV (d' := d - 1) (As := [_]) (ci := 10) dX10_byNumber_107 ok_X10_draw kw_1350 rfl rfl (Of.o (by assumption)) (by omega) rfl (Nat.le_of_ble_eq_true rfl) (r_draw (d - 1) (by omega) n ok _ hU 6 (by omega)) (Nat.le_refl _) (Or.inl rfl) (fun r ok1 mem1 hq => ?_)
                    obtain ⟨rfl, rfl, rfl⟩ := hq
                    try simp only [wr_s, wr_wr]
                    refine pw_callV (d' := d - 1) (As := [_, _, _, _, _]) (ci := 10) dX10_byNumber_110 ok_X10_stand kw_1283 rfl rfl (Of.o (by assumption)) (by omega) rfl (Nat.le_of_ble_eq_true rfl) (r_stand (d - 1) (by omega) n ok _ hU c (sDrw (i : Int)) _ _ _ (by omega) (by omega) (by omega) (by omega) (by omega)) (Nat.le_refl _) (Or.inl rfl) (fun r ok1 mem1 hq => ?_)
                    obtain ⟨rfl, rfl, rfl⟩ := hq
                    refine pw_iinc dX10_byNumber_113 rfl (by decide) ?_
                    refine pw_goto 73 (by decide) dX10_byNumber_116 ?_
                    exact pw_locs _ rfl (ih3 (i + 1) _ (by omega) (by omega) (by show stP (nst (by0 mem c x) c i) c i = _; rw [h6]; rfl))
              exact pw_locs _ rfl (lp73 5 0 (by0 mem c x) (by omega) (by omega) rfl)
            · skip
              refine pw_aload_n 0 rfl dX10_byNumber_41 rfl ?_
              refine pw_gR 5 90 dX10_byNumber_42 cOk10 (by assumption) (by decide) kw_1070 (by decide) rfl ?_
              refine pw_bipush dX10_byNumber_45 (by decide) ?_
              refine pw_iload_n 1 rfl dX10_byNumber_47 rfl ?_
              refine pw_imul dX10_byNumber_48 ?_
              refine pw_iload_n 3 rfl dX10_byNumber_49 rfl ?_
              refine pw_iadd dX10_byNumber_50 ?_
              refine pw_iconst dX10_byNumber_51 ?_
              refine pw_iastore dX10_byNumber_52 (by assumption) (by omega) (by omega) (by omega) ?_
              refine pw_iinc dX10_byNumber_53 rfl (by decide) ?_
              refine pw_goto 35 (by decide) dX10_byNumber_56 ?_
              exact pw_locs _ rfl (ih2 (i + 1) _ (by omega) (by omega) (by rw [← h4]; exact (fiM_s _ 90 (16 * c) i (-1) (by omega)).symm))
        exact pw_locs _ rfl (lp35 17 0 m1 (by omega) (by omega) (fiM_0 _ _ _ _))
      · skip
        refine pw_aload_n 0 rfl dX10_byNumber_7 rfl ?_
        refine pw_gR 4 89 dX10_byNumber_8 cOk10 (by assumption) (by decide) kw_1069 (by decide) rfl ?_
        refine pw_iconst dX10_byNumber_11 ?_
        refine pw_iload_n 1 rfl dX10_byNumber_12 rfl ?_
        refine pw_imul dX10_byNumber_13 ?_
        refine pw_iload_n 3 rfl dX10_byNumber_14 rfl ?_
        refine pw_iadd dX10_byNumber_15 ?_
        refine pw_iload_n 3 rfl dX10_byNumber_16 rfl ?_
        refine pw_iconst dX10_byNumber_17 ?_
        refine pw_icmp_ge 25 (by decide) dX10_byNumber_18 (by omega) (by omega) (fun c18 => ?_) (fun c18 => ?_)
        · skip
          refine pw_iconst dX10_byNumber_25 ?_
          refine pw_iastore dX10_byNumber_26 (by assumption) (by omega) (by omega) (by omega) ?_
          refine pw_iinc dX10_byNumber_27 rfl (by decide) ?_
          refine pw_goto 2 (by decide) dX10_byNumber_30 ?_
          exact pw_locs _ rfl (ih (i + 1) _ (by omega) (by omega) (by rw [← h2]; have e5 := (bcM_s mem 89 (4 * c) i (fun q => if q < 2 then 2 else -1) (by omega)).symm; simp only [if_neg (show ¬ (i : Int) < 2 by omega)] at e5; exact e5))
        · skip
          refine pw_iconst dX10_byNumber_21 ?_
          refine pw_goto 26 (by decide) dX10_byNumber_22 ?_
          refine pw_iastore dX10_byNumber_26 (by assumption) (by omega) (by omega) (by omega) ?_
          refine pw_iinc dX10_byNumber_27 rfl (by decide) ?_
          refine pw_goto 2 (by decide) dX10_byNumber_30 ?_
          exact pw_locs _ rfl (ih (i + 1) _ (by omega) (by omega) (by rw [← h2]; have e5 := (bcM_s mem 89 (4 * c) i (fun q => if q < 2 then 2 else -1) (by omega)).symm; simp only [if_pos (show (i : Int) < 2 by omega)] at e5; exact e5))
  exact pw_locs _ rfl (lp2 5 0 mem (by omega) (by omega) (bcM_0 _ _ _ _))
