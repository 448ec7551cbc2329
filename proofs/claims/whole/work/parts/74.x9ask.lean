/-! ===== the class's own methods: small ones, what is asked ===== -/
def RI (A : pM) : Prop := IOk A ∧ KOk A ∧ (0 ≤ A 88 19 ∧ A 88 19 ≤ 700000) ∧ A 88 3 = 0 ∧ ((0 ≤ A 88 24 ∧ A 88 24 ≤ 40) ∧ ∀ j, 0 ≤ j → j < A 88 24 → 0 ≤ A 106 j ∧ A 106 j < 38) ∧ SI A ∧ HF A ∧ (A 88 31 ≠ 0 → (0 ≤ A 88 33 ∧ A 88 33 ≤ 2) ∧ (A 88 32 = 0 → GI A (A 88 33) A)) ∧ ∀ j, 0 ≤ j → j < 1024 → A 119 j = 0 ∨ A 119 j = 1
def ClUp (n : Nat) (ok : pO) : Prop := Of n ok 9 1 ∧ NUp n ok ∧ (4 ≤ n ∧ ok 4 (0 : Int).toNat = true ∧ ok 4 (1 : Int).toNat = true ∧ ok 4 (2 : Int).toNat = true) ∧ (∀ b : Nat, b = 5 ∨ b = 23 ∨ b = 41 ∨ b = 59 → ChUp n ok b) ∧ Of n ok 2 77 ∧ MUp n ok ∧ (WUp n ok 80 ∧ WUp n ok 82 ∧ WUp n ok 84) ∧ Ar n 86 40 ∧ Ar n 87 40 ∧ (n = 133 → SUp n ok) ∧ n ≤ 133
def RE (m m1 : pM) : Prop := ∀ a, 88 ≤ a → a ≤ 122 → m1 a = m a
theorem RE1 (m : pM) (x : Int) : RE m (wr m 1 16 x) := fun a h1 h2 => wr_a _ _ _ (by omega)
theorem RE_met (m : pM) (f x : Int) : RE m (wr (nMt m f) 1 16 x) := fun a h1 h2 => by rw [wr_a _ _ _ (by omega), nMt_a _ _ _ (by omega)]
theorem IOk_c {A A2 : pM} (h : IOk A) (e : ∀ a, 89 ≤ a → a ≤ 100 → A2 a = A a) : IOk A2 := fun c c1 c2 => cIn_c e (h c c1 c2)
theorem KOk_c {A A2 : pM} (h : KOk A) (e1 : A2 101 = A 101) (e2 : A2 102 = A 102) : KOk A2 := by unfold KOk; rw [e1, e2]; exact h
theorem RG_met {A m : pM} {n : Nat} (h : RG A m n) (hR : RI A) (f : Int) : RG (rMet A f).2 (wr (nMt m f) 1 16 (-10 - f)) n := by
  have e := RG_ev h hR.1 hR.2.1 hR.2.2.1.1 hR.2.2.2.1 [(false, f)]
  have s := nSame.e A [(false, f)]
  exact RG_st e (IOk_c hR.1 (fun a a1 a2 => s.1 a (by omega) (by omega))) (KOk_c hR.2.1 (s.1 101 (by omega) (by omega)) (s.1 102 (by omega) (by omega))) (-10 - f)
set_option maxHeartbeats 4000000 in
set_option maxRecDepth 100000 in
theorem p_isChest (d : Nat) (hd : 0 ≤ d) (n : Nat) (ok : pO) (mem : pM) (c : Int) (hc : -2147483648 ≤ c ∧ c ≤ 2147483647) : PM mi_X9_isChest d [vi c] n ok mem n (fun r ok' mem' => r = some (vi (if 0 ≤ c ∧ c ≤ 2 then 1 else 0)) ∧ ok = ok' ∧ mem = mem') := by
  refine PM.of (by decide) (by decide) (Nat.le_refl _) (Nat.le_of_ble_eq_true rfl) ?_
  refine pw_iload_n 0 rfl dX9_isChest_0 rfl ?_
  refine pw_if_lt 13 (by decide) dX9_isChest_1 (by omega) (fun c1 => ?_) (fun c1 => ?_)
  · skip
    refine pw_iconst dX9_isChest_13 ?_
    refine pw_zret dX9_isChest_14 rfl (by omega) rfl ?_
    refine ⟨congrArg (fun z => some (vi z)) ?_, rfl, rfl⟩
    first | (rw [if_pos (by omega)]) | (rw [if_neg (by omega)])
  · skip
    refine pw_iload_n 0 rfl dX9_isChest_4 rfl ?_
    refine pw_iconst dX9_isChest_5 ?_
    refine pw_icmp_ge 13 (by decide) dX9_isChest_6 (by omega) (by omega) (fun c6 => ?_) (fun c6 => ?_)
    · skip
      refine pw_iconst dX9_isChest_13 ?_
      refine pw_zret dX9_isChest_14 rfl (by omega) rfl ?_
      refine ⟨congrArg (fun z => some (vi z)) ?_, rfl, rfl⟩
      first | (rw [if_pos (by omega)]) | (rw [if_neg (by omega)])
    · skip
      refine pw_iconst dX9_isChest_9 ?_
      refine pw_goto 14 (by decide) dX9_isChest_10 ?_
      refine pw_zret dX9_isChest_14 rfl (by omega) rfl ?_
      refine ⟨congrArg (fun z => some (vi z)) ?_, rfl, rfl⟩
      first | (rw [if_pos (by omega)]) | (rw [if_neg (by omega)])
set_option maxHeartbeats 4000000 in
set_option maxRecDepth 100000 in
theorem p_isSeat (d : Nat) (hd : 0 ≤ d) (n : Nat) (ok : pO) (mem : pM) (c : Int) (hc : -2147483648 ≤ c ∧ c ≤ 2147483647) : PM mi_X9_isSeat d [vi c] n ok mem n (fun r ok' mem' => r = some (vi (if 0 ≤ c ∧ c ≤ 15 then 1 else 0)) ∧ ok = ok' ∧ mem = mem') := by
  refine PM.of (by decide) (by decide) (Nat.le_refl _) (Nat.le_of_ble_eq_true rfl) ?_
  refine pw_iload_n 0 rfl dX9_isSeat_0 rfl ?_
  refine pw_if_lt 14 (by decide) dX9_isSeat_1 (by omega) (fun c1 => ?_) (fun c1 => ?_)
  · skip
    refine pw_iconst dX9_isSeat_14 ?_
    refine pw_zret dX9_isSeat_15 rfl (by omega) rfl ?_
    refine ⟨congrArg (fun z => some (vi z)) ?_, rfl, rfl⟩
    first | (rw [if_pos (by omega)]) | (rw [if_neg (by omega)])
  · skip
    refine pw_iload_n 0 rfl dX9_isSeat_4 rfl ?_
    refine pw_bipush dX9_isSeat_5 (by decide) ?_
    refine pw_icmp_ge 14 (by decide) dX9_isSeat_7 (by omega) (by omega) (fun c7 => ?_) (fun c7 => ?_)
    · skip
      refine pw_iconst dX9_isSeat_14 ?_
      refine pw_zret dX9_isSeat_15 rfl (by omega) rfl ?_
      refine ⟨congrArg (fun z => some (vi z)) ?_, rfl, rfl⟩
      first | (rw [if_pos (by omega)]) | (rw [if_neg (by omega)])
    · skip
      refine pw_iconst dX9_isSeat_10 ?_
      refine pw_goto 15 (by decide) dX9_isSeat_11 ?_
      refine pw_zret dX9_isSeat_15 rfl (by omega) rfl ?_
      refine ⟨congrArg (fun z => some (vi z)) ?_, rfl, rfl⟩
      first | (rw [if_pos (by omega)]) | (rw [if_neg (by omega)])
set_option maxHeartbeats 4000000 in
set_option maxRecDepth 100000 in
theorem p_isMove (d : Nat) (hd : 0 ≤ d) (n : Nat) (ok : pO) (mem : pM) (c : Int) (hc : -2147483648 ≤ c ∧ c ≤ 2147483647) : PM mi_X9_isMove d [vi c] n ok mem n (fun r ok' mem' => r = some (vi (if 0 ≤ c ∧ c ≤ 37 then 1 else 0)) ∧ ok = ok' ∧ mem = mem') := by
  refine PM.of (by decide) (by decide) (Nat.le_refl _) (Nat.le_of_ble_eq_true rfl) ?_
  refine pw_iload_n 0 rfl dX9_isMove_0 rfl ?_
  refine pw_if_lt 14 (by decide) dX9_isMove_1 (by omega) (fun c1 => ?_) (fun c1 => ?_)
  · skip
    refine pw_iconst dX9_isMove_14 ?_
    refine pw_zret dX9_isMove_15 rfl (by omega) rfl ?_
    refine ⟨congrArg (fun z => some (vi z)) ?_, rfl, rfl⟩
    first | (rw [if_pos (by omega)]) | (rw [if_neg (by omega)])
  · skip
    refine pw_iload_n 0 rfl dX9_isMove_4 rfl ?_
    refine pw_bipush dX9_isMove_5 (by decide) ?_
    refine pw_icmp_ge 14 (by decide) dX9_isMove_7 (by omega) (by omega) (fun c7 => ?_) (fun c7 => ?_)
    · skip
      refine pw_iconst dX9_isMove_14 ?_
      refine pw_zret dX9_isMove_15 rfl (by omega) rfl ?_
      refine ⟨congrArg (fun z => some (vi z)) ?_, rfl, rfl⟩
      first | (rw [if_pos (by omega)]) | (rw [if_neg (by omega)])
    · skip
      refine pw_iconst dX9_isMove_10 ?_
      refine pw_goto 15 (by decide) dX9_isMove_11 ?_
      refine pw_zret dX9_isMove_15 rfl (by omega) rfl ?_
      refine ⟨congrArg (fun z => some (vi z)) ?_, rfl, rfl⟩
      first | (rw [if_pos (by omega)]) | (rw [if_neg (by omega)])
set_option maxHeartbeats 4000000 in
set_option maxRecDepth 100000 in
theorem p_isPart (d : Nat) (hd : 0 ≤ d) (n : Nat) (ok : pO) (mem : pM) (k p e : Int) (hk : -2147483648 ≤ k ∧ k ≤ 2147483647) (hp : -2147483648 ≤ p ∧ p ≤ 2147483647) (he : -2147483648 ≤ e ∧ e ≤ 2147483647) : PM mi_X9_isPart d [vi k, vi p, vi e] n ok mem n (fun r ok' mem' => r = some (vi (if (0 ≤ k ∧ k ≤ 5) ∧ (1 ≤ p ∧ p ≤ (if k = 5 then 1 else 6)) ∧ (0 ≤ e ∧ e ≤ 5) then 1 else 0)) ∧ ok = ok' ∧ mem = mem') := by
  refine PM.of (by decide) (by decide) (Nat.le_refl _) (Nat.le_of_ble_eq_true rfl) ?_
  refine pw_iload_n 0 rfl dX9_isPart_0 rfl ?_
  refine pw_if_lt 43 (by decide) dX9_isPart_1 (by omega) (fun c1 => ?_) (fun c1 => ?_)
  · skip
    refine pw_iconst dX9_isPart_43 ?_
    refine pw_zret dX9_isPart_44 rfl (by omega) rfl ?_
    refine ⟨congrArg (fun z => some (vi z)) ?_, rfl, rfl⟩
    (repeat' split) <;> omega
  · skip
    refine pw_iload_n 0 rfl dX9_isPart_4 rfl ?_
    refine pw_iconst dX9_isPart_5 ?_
    refine pw_icmp_gt 43 (by decide) dX9_isPart_6 (by omega) (by omega) (fun c6 => ?_) (fun c6 => ?_)
    · skip
      refine pw_iconst dX9_isPart_43 ?_
      refine pw_zret dX9_isPart_44 rfl (by omega) rfl ?_
      refine ⟨congrArg (fun z => some (vi z)) ?_, rfl, rfl⟩
      (repeat' split) <;> omega
    · skip
      refine pw_iload_n 1 rfl dX9_isPart_9 rfl ?_
      refine pw_iconst dX9_isPart_10 ?_
      refine pw_icmp_lt 43 (by decide) dX9_isPart_11 (by omega) (by omega) (fun c11 => ?_) (fun c11 => ?_)
      · skip
        refine pw_iconst dX9_isPart_43 ?_
        refine pw_zret dX9_isPart_44 rfl (by omega) rfl ?_
        refine ⟨congrArg (fun z => some (vi z)) ?_, rfl, rfl⟩
        (repeat' split) <;> omega
      · skip
        refine pw_iload_n 1 rfl dX9_isPart_14 rfl ?_
        refine pw_iload_n 0 rfl dX9_isPart_15 rfl ?_
        refine pw_iconst dX9_isPart_16 ?_
        refine pw_icmp_ne 24 (by decide) dX9_isPart_17 (by omega) (by omega) (fun c17 => ?_) (fun c17 => ?_)
        · skip
          refine pw_bipush dX9_isPart_24 (by decide) ?_
          refine pw_icmp_gt 43 (by decide) dX9_isPart_26 (by omega) (by omega) (fun c26 => ?_) (fun c26 => ?_)
          · skip
            refine pw_iconst dX9_isPart_43 ?_
            refine pw_zret dX9_isPart_44 rfl (by omega) rfl ?_
            refine ⟨congrArg (fun z => some (vi z)) ?_, rfl, rfl⟩
            (repeat' split) <;> omega
          · skip
            refine pw_iload_n 2 rfl dX9_isPart_29 rfl ?_
            refine pw_if_lt 43 (by decide) dX9_isPart_30 (by omega) (fun c30 => ?_) (fun c30 => ?_)
            · skip
              refine pw_iconst dX9_isPart_43 ?_
              refine pw_zret dX9_isPart_44 rfl (by omega) rfl ?_
              refine ⟨congrArg (fun z => some (vi z)) ?_, rfl, rfl⟩
              (repeat' split) <;> omega
            · skip
              refine pw_iload_n 2 rfl dX9_isPart_33 rfl ?_
              refine pw_bipush dX9_isPart_34 (by decide) ?_
              refine pw_icmp_ge 43 (by decide) dX9_isPart_36 (by omega) (by omega) (fun c36 => ?_) (fun c36 => ?_)
              · skip
                refine pw_iconst dX9_isPart_43 ?_
                refine pw_zret dX9_isPart_44 rfl (by omega) rfl ?_
                refine ⟨congrArg (fun z => some (vi z)) ?_, rfl, rfl⟩
                (repeat' split) <;> omega
              · skip
                refine pw_iconst dX9_isPart_39 ?_
                refine pw_goto 44 (by decide) dX9_isPart_40 ?_
                refine pw_zret dX9_isPart_44 rfl (by omega) rfl ?_
                refine ⟨congrArg (fun z => some (vi z)) ?_, rfl, rfl⟩
                (repeat' split) <;> omega
        · skip
          refine pw_iconst dX9_isPart_20 ?_
          refine pw_goto 26 (by decide) dX9_isPart_21 ?_
          refine pw_icmp_gt 43 (by decide) dX9_isPart_26 (by omega) (by omega) (fun c26 => ?_) (fun c26 => ?_)
          · skip
            refine pw_iconst dX9_isPart_43 ?_
            refine pw_zret dX9_isPart_44 rfl (by omega) rfl ?_
            refine ⟨congrArg (fun z => some (vi z)) ?_, rfl, rfl⟩
            (repeat' split) <;> omega
          · skip
            refine pw_iload_n 2 rfl dX9_isPart_29 rfl ?_
            refine pw_if_lt 43 (by decide) dX9_isPart_30 (by omega) (fun c30 => ?_) (fun c30 => ?_)
            · skip
              refine pw_iconst dX9_isPart_43 ?_
              refine pw_zret dX9_isPart_44 rfl (by omega) rfl ?_
              refine ⟨congrArg (fun z => some (vi z)) ?_, rfl, rfl⟩
              (repeat' split) <;> omega
            · skip
              refine pw_iload_n 2 rfl dX9_isPart_33 rfl ?_
              refine pw_bipush dX9_isPart_34 (by decide) ?_
              refine pw_icmp_ge 43 (by decide) dX9_isPart_36 (by omega) (by omega) (fun c36 => ?_) (fun c36 => ?_)
              · skip
                refine pw_iconst dX9_isPart_43 ?_
                refine pw_zret dX9_isPart_44 rfl (by omega) rfl ?_
                refine ⟨congrArg (fun z => some (vi z)) ?_, rfl, rfl⟩
                (repeat' split) <;> omega
              · skip
                refine pw_iconst dX9_isPart_39 ?_
                refine pw_goto 44 (by decide) dX9_isPart_40 ?_
                refine pw_zret dX9_isPart_44 rfl (by omega) rfl ?_
                refine ⟨congrArg (fun z => some (vi z)) ?_, rfl, rfl⟩
                (repeat' split) <;> omega
set_option maxHeartbeats 4000000 in
set_option maxRecDepth 100000 in
theorem p_refused (d : Nat) (hd : 0 ≤ d) (n : Nat) (ok : pO) (mem : pM) (hP9 : Of n ok 9 1) (x : Int) (hx : -2147483648 ≤ x ∧ x ≤ 2147483647) : PM mi_X9_refused d [vr 1, vi x] n ok mem n (fun r ok' mem' => r = some (vi x) ∧ ok = ok' ∧ wr mem 1 16 x = mem') := by
  refine PM.of (by decide) (by decide) (Nat.le_refl _) (Nat.le_of_ble_eq_true rfl) ?_
  refine pw_aload_n 0 rfl dX9_refused_0 rfl ?_
  refine pw_iload_n 1 rfl dX9_refused_1 rfl ?_
  refine pw_pI 16 16 rfl dX9_refused_2 cOk9 (by assumption) (by decide) kw_363 rfl rfl (by decide) (by omega) ?_
  refine pw_iload_n 1 rfl dX9_refused_5 rfl ?_
  refine pw_iret dX9_refused_6 rfl rfl ?_
  exact ⟨rfl, rfl, rfl⟩
set_option maxHeartbeats 4000000 in
set_option maxRecDepth 100000 in
theorem p_answered (d : Nat) (hd : 0 ≤ d) (n : Nat) (ok : pO) (mem : pM) (hP9 : Of n ok 9 1) (x : Int) : PM mi_X9_answered d [vr 1, vi x] n ok mem n (fun r ok' mem' => r = some (vi x) ∧ ok = ok' ∧ wr mem 1 16 0 = mem') := by
  refine PM.of (by decide) (by decide) (Nat.le_refl _) (Nat.le_of_ble_eq_true rfl) ?_
  refine pw_aload_n 0 rfl dX9_answered_0 rfl ?_
  refine pw_iconst dX9_answered_1 ?_
  refine pw_pI 16 16 rfl dX9_answered_2 cOk9 (by assumption) (by decide) kw_363 rfl rfl (by decide) (by omega) ?_
  refine pw_iload_n 1 rfl dX9_answered_5 rfl ?_
  refine pw_iret dX9_answered_6 rfl rfl ?_
  exact ⟨rfl, rfl, rfl⟩
set_option maxHeartbeats 4000000 in
set_option maxRecDepth 100000 in
theorem p_refusalOfPart (d : Nat) (hd : 1 ≤ d) (n : Nat) (ok : pO) (mem : pM) (hU : ClUp n ok) (A : pM) (hG : RG A mem n) (hRI : RI A) (c s : Int) (hc : -2147483648 ≤ c ∧ c ≤ 2147483647) (hs : -2147483648 ≤ s ∧ s ≤ 2147483647)  : PM mi_X9_refusalOfPart d [vr 1, vi c, vi s] n ok mem n (fun r ok' mem' => ok = ok' ∧ ((¬ (0 ≤ c ∧ c ≤ 2) ∧ r = some (vi (-2)) ∧ mem = mem') ∨ ((0 ≤ c ∧ c ≤ 2) ∧ ¬ (0 ≤ s ∧ s ≤ 15) ∧ r = some (vi (-3)) ∧ mem = mem') ∨ ((0 ≤ c ∧ c ≤ 2) ∧ (0 ≤ s ∧ s ≤ 15) ∧ aComes A c s ≠ 0 ∧ r = some (vi (-10 - aComes A c s)) ∧ nMt mem (aComes A c s) = mem') ∨ ((0 ≤ c ∧ c ≤ 2) ∧ (0 ≤ s ∧ s ≤ 15) ∧ aComes A c s = 0 ∧ r = some (vi 0) ∧ mem = mem'))) := by
  obtain ⟨hP9, hN, ⟨hn4, ho0, ho1, ho2⟩, hCh, hDr, hM, ⟨hW80, hW82, hW84⟩, q86, q87, hSU, hn133⟩ := id hU
  obtain ⟨hN5, hN3⟩ := id hN
  obtain ⟨hM4, hM9⟩ := id hM
  obtain ⟨hW8, hWA, -, -⟩ := id hW80
  have hIO := hRI.1
  have hKO := hRI.2.1
  have ht9 := hRI.2.2.1
  have hq0 := hRI.2.2.2.1
  have hty := hRI.2.2.2.2.1
  have hNR := hG.1
  have hNR1 : mem 2 1 = A 88 19 := hNR.1
  refine PM.of (by decide) (by decide) (Nat.le_refl _) (Nat.le_of_ble_eq_true rfl) ?_
  refine pw_iload_n 1 rfl dX9_refusalOfPart_0 rfl ?_
  refine pw_callS (d' := d - 1) (As := [_]) dX9_refusalOfPart_1 ok_X9_isChest kw_403 (by omega) rfl (Nat.le_of_ble_eq_true rfl) (p_isChest (d - 1) (by omega) n ok _ _ (by omega)) (Nat.le_refl _) (Or.inl rfl) (fun r ok1 mem1 hq => ?_)
  obtain ⟨rfl, rfl, rfl⟩ := hq
  refine pw_if_ne 10 (by decide) dX9_refusalOfPart_4 (by split <;> omega) (fun c4 => ?_) (fun c4 => ?_)
  · skip
    rw [ne_eq, bz_n] at c4
    refine pw_iload_n 2 rfl dX9_refusalOfPart_10 rfl ?_
    refine pw_callS (d' := d - 1) (As := [_]) dX9_refusalOfPart_11 ok_X9_isSeat kw_431 (by omega) rfl (Nat.le_of_ble_eq_true rfl) (p_isSeat (d - 1) (by omega) n ok _ _ (by omega)) (Nat.le_refl _) (Or.inl rfl) (fun r ok1 mem1 hq => ?_)
    obtain ⟨rfl, rfl, rfl⟩ := hq
    refine pw_if_ne 20 (by decide) dX9_refusalOfPart_14 (by split <;> omega) (fun c14 => ?_) (fun c14 => ?_)
    · skip
      rw [ne_eq, bz_n] at c14
      obtain ⟨b, hbc⟩ : ∃ b : Nat, (b : Int) = 5 + 18 * c := ⟨(5 + 18 * c).toNat, by omega⟩
      have hC : ChUp n ok b := hCh b (by omega)
      have hok : ok 4 (c).toNat = true := by rcases (show c = 0 ∨ c = 1 ∨ c = 2 by omega) with e | e | e <;> (rw [e]; assumption)
      obtain ⟨hS, hV, hJ, hKR⟩ := hG.2.1 c b (by omega) (by omega) hbc
      have hI := hIO c (by omega) (by omega)
      have hOk := hI.ok
      obtain ⟨hR, hD, hSo⟩ := id hS
      obtain ⟨hC0, ⟨hC1, hC2, hC3, hC4, hC5, hC6, hC7⟩, hC8, ⟨hC9, hC10, hC11, hC12, hC13, hC14, hC15⟩, hC16, hC17, hb5, hb59⟩ := id hC
      refine pw_aload_n 0 rfl dX9_refusalOfPart_20 rfl ?_
      refine pw_gR 1 4 dX9_refusalOfPart_21 cOk9 (by assumption) (by decide) kw_348 (by decide) rfl ?_
      refine pw_iload_n 1 rfl dX9_refusalOfPart_24 rfl ?_
      refine pw_aaload (L := 3) dX9_refusalOfPart_25 (by omega) (by omega) rfl rfl (by decide) (by omega) (by omega) b hbc hok ?_
      refine pw_iload_n 2 rfl dX9_refusalOfPart_26 rfl ?_
      refine pw_iconst dX9_refusalOfPart_27 ?_
      refine pw_callV (d' := d - 1) (As := [_, _]) (ci := 0) dX9_refusalOfPart_28 ok_X0_findingAt kw_437 rfl rfl (Of.o (by assumption)) (by omega) rfl (Nat.le_of_ble_eq_true rfl) (h_findingAt (d - 1) (by omega) n ok mem hN b hC A c (aAt A c) hI hS hV hOk.2.1 s c14 1 (by omega)) (Nat.le_refl _) (Or.inl rfl) (fun r ok1 mem1 hq => ?_)
      obtain ⟨rfl, rfl, rfl⟩ := hq
      rw [if_neg (show ¬ ((1 : Int) = 0) by omega)]
      have hcm := aComes_ran A c s
      refine pw_istore_n 3 rfl dX9_refusalOfPart_31 (by decide) ?_
      refine pw_iload_n 3 rfl dX9_refusalOfPart_32 rfl ?_
      refine pw_if_ne 40 (by decide) dX9_refusalOfPart_33 (by omega) (fun c33 => ?_) (fun c33 => ?_)
      · skip
        refine pw_aload_n 0 rfl dX9_refusalOfPart_40 rfl ?_
        refine pw_gR 0 2 dX9_refusalOfPart_41 cOk9 (by assumption) (by decide) kw_347 (by decide) rfl ?_
        refine pw_iload_n 3 rfl dX9_refusalOfPart_44 rfl ?_
        refine pw_callV (d' := d - 1) (As := [_]) (ci := 5) dX9_refusalOfPart_45 ok_X5_met kw_410 rfl rfl (Of.o (by assumption)) (by omega) rfl (Nat.le_of_ble_eq_true rfl) (n_met (d - 1) (by omega) n ok mem hN _ (by omega)) (Nat.le_refl _) (Or.inl rfl) (fun r ok1 mem1 hq => ?_)
        obtain ⟨rfl, rfl, em1⟩ := hq
        refine pw_iret dX9_refusalOfPart_48 rfl rfl ?_
        exact ⟨rfl, Or.inr (Or.inr (Or.inl ⟨c4, c14, c33, rfl, em1⟩))⟩
      · skip
        refine pw_iconst dX9_refusalOfPart_36 ?_
        refine pw_goto 48 (by decide) dX9_refusalOfPart_37 ?_
        refine pw_iret dX9_refusalOfPart_48 rfl rfl ?_
        exact ⟨rfl, Or.inr (Or.inr (Or.inr ⟨c4, c14, by omega, rfl, rfl⟩))⟩
    · skip
      rw [bz_0] at c14
      refine pw_bipush dX9_refusalOfPart_17 (by decide) ?_
      refine pw_iret dX9_refusalOfPart_19 rfl rfl ?_
      exact ⟨rfl, Or.inr (Or.inl ⟨c4, c14, rfl, rfl⟩)⟩
  · skip
    rw [bz_0] at c4
    refine pw_bipush dX9_refusalOfPart_7 (by decide) ?_
    refine pw_iret dX9_refusalOfPart_9 rfl rfl ?_
    exact ⟨rfl, Or.inl ⟨c4, rfl, rfl⟩⟩
set_option maxHeartbeats 4000000 in
set_option maxRecDepth 100000 in
theorem p_isCondition (d : Nat) (hd : 1 ≤ d) (n : Nat) (ok : pO) (mem : pM) (hU : ClUp n ok) (hG : RG mem mem n) (hRI : RI mem) (c k : Int) (hc : -2147483648 ≤ c ∧ c ≤ 2147483647) (hk : -2147483648 ≤ k ∧ k ≤ 2147483647)  : PM mi_X9_isCondition d [vr 1, vi c, vi k] n ok mem n (fun r ok' mem' => r = some (vi (if (0 ≤ c ∧ c ≤ 2) ∧ 0 ≤ k ∧ k < mem 94 c then 1 else 0)) ∧ ok = ok' ∧ mem = mem') := by
  obtain ⟨hP9, hN, ⟨hn4, ho0, ho1, ho2⟩, hCh, hDr, hM, ⟨hW80, hW82, hW84⟩, q86, q87, hSU, hn133⟩ := id hU
  obtain ⟨hN5, hN3⟩ := id hN
  obtain ⟨hM4, hM9⟩ := id hM
  obtain ⟨hW8, hWA, -, -⟩ := id hW80
  have hIO := hRI.1
  have hKO := hRI.2.1
  have ht9 := hRI.2.2.1
  have hq0 := hRI.2.2.2.1
  have hty := hRI.2.2.2.2.1
  have hNR := hG.1
  have hNR1 : mem 2 1 = mem 88 19 := hNR.1
  refine PM.of (by decide) (by decide) (Nat.le_refl _) (Nat.le_of_ble_eq_true rfl) ?_
  refine pw_iload_n 1 rfl dX9_isCondition_0 rfl ?_
  refine pw_callS (d' := d - 1) (As := [_]) dX9_isCondition_1 ok_X9_isChest kw_403 (by omega) rfl (Nat.le_of_ble_eq_true rfl) (p_isChest (d - 1) (by omega) n ok _ _ (by omega)) (Nat.le_refl _) (Or.inl rfl) (fun r ok1 mem1 hq => ?_)
  obtain ⟨rfl, rfl, rfl⟩ := hq
  refine pw_if_eq 31 (by decide) dX9_isCondition_4 (by split <;> omega) (fun c4 => ?_) (fun c4 => ?_)
  · skip
    rw [bz_0] at c4
    refine pw_iconst dX9_isCondition_31 ?_
    refine pw_zret dX9_isCondition_32 rfl (by omega) rfl ?_
    refine ⟨congrArg (fun z => some (vi z)) ?_, rfl, rfl⟩
    first | (rw [if_pos (by omega)]) | (rw [if_neg (by omega)])
  · skip
    rw [bz_n] at c4
    refine pw_iload_n 2 rfl dX9_isCondition_7 rfl ?_
    refine pw_if_lt 31 (by decide) dX9_isCondition_8 (by omega) (fun c8 => ?_) (fun c8 => ?_)
    · skip
      refine pw_iconst dX9_isCondition_31 ?_
      refine pw_zret dX9_isCondition_32 rfl (by omega) rfl ?_
      refine ⟨congrArg (fun z => some (vi z)) ?_, rfl, rfl⟩
      first | (rw [if_pos (by omega)]) | (rw [if_neg (by omega)])
    · skip
      refine pw_iload_n 2 rfl dX9_isCondition_11 rfl ?_
      obtain ⟨b, hbc⟩ : ∃ b : Nat, (b : Int) = 5 + 18 * c := ⟨(5 + 18 * c).toNat, by omega⟩
      have hC : ChUp n ok b := hCh b (by omega)
      have hok : ok 4 (c).toNat = true := by rcases (show c = 0 ∨ c = 1 ∨ c = 2 by omega) with e | e | e <;> (rw [e]; assumption)
      obtain ⟨hS, hV, hJ, hKR⟩ := hG.2.1 c b (by omega) (by omega) hbc
      have hI := hIO c (by omega) (by omega)
      have hOk := hI.ok
      obtain ⟨hR, hD, hSo⟩ := id hS
      obtain ⟨hC0, ⟨hC1, hC2, hC3, hC4, hC5, hC6, hC7⟩, hC8, ⟨hC9, hC10, hC11, hC12, hC13, hC14, hC15⟩, hC16, hC17, hb5, hb59⟩ := id hC
      refine pw_aload_n 0 rfl dX9_isCondition_12 rfl ?_
      refine pw_gR 1 4 dX9_isCondition_13 cOk9 (by assumption) (by decide) kw_348 (by decide) rfl ?_
      refine pw_iload_n 1 rfl dX9_isCondition_16 rfl ?_
      refine pw_aaload (L := 3) dX9_isCondition_17 (by omega) (by omega) rfl rfl (by decide) (by omega) (by omega) b hbc hok ?_
      refine pw_gR 8 (b + 8) dX9_isCondition_18 cOk0 (by assumption) (by decide) kw_248 (by decide) rfl ?_
      refine pw_gI 7 7 rfl dX9_isCondition_21 cOk1 (by assumption) (by decide) kw_153 (by decide) (fun r21 => ?_)
      rw [hR.2.2.1] at r21 ⊢
      have hnc := hI.2.2.1.1
      refine pw_icmp_ge 31 (by decide) dX9_isCondition_24 (by omega) (by omega) (fun c24 => ?_) (fun c24 => ?_)
      · skip
        refine pw_iconst dX9_isCondition_31 ?_
        refine pw_zret dX9_isCondition_32 rfl (by omega) rfl ?_
        refine ⟨congrArg (fun z => some (vi z)) ?_, rfl, rfl⟩
        first | (rw [if_pos (by omega)]) | (rw [if_neg (by omega)])
      · skip
        refine pw_iconst dX9_isCondition_27 ?_
        refine pw_goto 32 (by decide) dX9_isCondition_28 ?_
        refine pw_zret dX9_isCondition_32 rfl (by omega) rfl ?_
        refine ⟨congrArg (fun z => some (vi z)) ?_, rfl, rfl⟩
        first | (rw [if_pos (by omega)]) | (rw [if_neg (by omega)])
set_option maxHeartbeats 4000000 in
set_option maxRecDepth 100000 in
theorem p_product (d : Nat) (hd : 1 ≤ d) (n : Nat) (ok : pO) (mem : pM) (hU : ClUp n ok) (hG : RG mem mem n) (hRI : RI mem) (c : Int) (hc : -2147483648 ≤ c ∧ c ≤ 2147483647)  : PM mi_X9_product d [vr 1, vi c] n ok mem n (fun r ok' mem' => r = some (vi (rProduct mem c).1) ∧ ok = ok' ∧ RE mem mem' ∧ RG (rProduct mem c).2 mem' n) := by
  obtain ⟨hP9, hN, ⟨hn4, ho0, ho1, ho2⟩, hCh, hDr, hM, ⟨hW80, hW82, hW84⟩, q86, q87, hSU, hn133⟩ := id hU
  obtain ⟨hN5, hN3⟩ := id hN
  obtain ⟨hM4, hM9⟩ := id hM
  obtain ⟨hW8, hWA, -, -⟩ := id hW80
  have hIO := hRI.1
  have hKO := hRI.2.1
  have ht9 := hRI.2.2.1
  have hq0 := hRI.2.2.2.1
  have hty := hRI.2.2.2.2.1
  have hNR := hG.1
  have hNR1 : mem 2 1 = mem 88 19 := hNR.1
  refine PM.of (by decide) (by decide) (Nat.le_refl _) (Nat.le_of_ble_eq_true rfl) ?_
  refine pw_iload_n 1 rfl dX9_product_0 rfl ?_
  refine pw_callS (d' := d - 1) (As := [_]) dX9_product_1 ok_X9_isChest kw_403 (by omega) rfl (Nat.le_of_ble_eq_true rfl) (p_isChest (d - 1) (by omega) n ok _ _ (by omega)) (Nat.le_refl _) (Or.inl rfl) (fun r ok1 mem1 hq => ?_)
  obtain ⟨rfl, rfl, rfl⟩ := hq
  refine pw_if_eq 23 (by decide) dX9_product_4 (by split <;> omega) (fun c4 => ?_) (fun c4 => ?_)
  · skip
    rw [bz_0] at c4
    refine pw_aload_n 0 rfl dX9_product_23 rfl ?_
    refine pw_bipush dX9_product_24 (by decide) ?_
    refine pw_callV (d' := d - 1) (As := [_]) (ci := 9) dX9_product_26 ok_X9_refused kw_406 rfl rfl (Of.o (by assumption)) (by omega) rfl (Nat.le_of_ble_eq_true rfl) (p_refused (d - 1) (by omega) n ok _ hP9 _ (by omega)) (Nat.le_refl _) (Or.inl rfl) (fun r ok1 mem1 hq => ?_)
    obtain ⟨rfl, rfl, rfl⟩ := hq
    refine pw_iret dX9_product_29 rfl rfl ?_
    have e9 : rProduct mem c = rRef mem (-2) := by
      unfold rProduct; (repeat' split) <;> first | rfl | (exfalso; omega) | contradiction
    rw [e9]; exact ⟨rfl, rfl, RE1 _ _, RG_st hG hIO hKO _⟩
  · skip
    rw [bz_n] at c4
    obtain ⟨b, hbc⟩ : ∃ b : Nat, (b : Int) = 5 + 18 * c := ⟨(5 + 18 * c).toNat, by omega⟩
    have hC : ChUp n ok b := hCh b (by omega)
    have hok : ok 4 (c).toNat = true := by rcases (show c = 0 ∨ c = 1 ∨ c = 2 by omega) with e | e | e <;> (rw [e]; assumption)
    obtain ⟨hS, hV, hJ, hKR⟩ := hG.2.1 c b (by omega) (by omega) hbc
    have hI := hIO c (by omega) (by omega)
    have hOk := hI.ok
    obtain ⟨hR, hD, hSo⟩ := id hS
    obtain ⟨hC0, ⟨hC1, hC2, hC3, hC4, hC5, hC6, hC7⟩, hC8, ⟨hC9, hC10, hC11, hC12, hC13, hC14, hC15⟩, hC16, hC17, hb5, hb59⟩ := id hC
    refine pw_aload_n 0 rfl dX9_product_7 rfl ?_
    refine pw_aload_n 0 rfl dX9_product_8 rfl ?_
    refine pw_gR 1 4 dX9_product_9 cOk9 (by assumption) (by decide) kw_348 (by decide) rfl ?_
    refine pw_iload_n 1 rfl dX9_product_12 rfl ?_
    refine pw_aaload (L := 3) dX9_product_13 (by omega) (by omega) rfl rfl (by decide) (by omega) (by omega) b hbc hok ?_
    refine pw_gI 11 11 rfl dX9_product_14 cOk0 (by assumption) (by decide) kw_254 (by decide) (fun r14 => ?_)
    rw [hD.2.1, ← aMul_pW] at r14 ⊢
    refine pw_callV (d' := d - 1) (As := [_]) (ci := 9) dX9_product_17 ok_X9_answered kw_423 rfl rfl (Of.o (by assumption)) (by omega) rfl (Nat.le_of_ble_eq_true rfl) (p_answered (d - 1) (by omega) n ok _ hP9 _) (Nat.le_refl _) (Or.inl rfl) (fun r ok1 mem1 hq => ?_)
    obtain ⟨rfl, rfl, rfl⟩ := hq
    refine pw_goto 29 (by decide) dX9_product_20 ?_
    refine pw_iret dX9_product_29 rfl rfl ?_
    have e9 : rProduct mem c = rSay mem (aMul mem c (-1) 16) := by
      unfold rProduct; (repeat' split) <;> first | rfl | (exfalso; omega) | contradiction
    rw [e9]; exact ⟨rfl, rfl, RE1 _ _, RG_st hG hIO hKO _⟩
set_option maxHeartbeats 4000000 in
set_option maxRecDepth 100000 in
theorem p_state (d : Nat) (hd : 2 ≤ d) (n : Nat) (ok : pO) (mem : pM) (hU : ClUp n ok) (hG : RG mem mem n) (hRI : RI mem) (c : Int) (hc : -2147483648 ≤ c ∧ c ≤ 2147483647)  : PM mi_X9_state d [vr 1, vi c] n ok mem n (fun r ok' mem' => r = some (vi (rState mem c).1) ∧ ok = ok' ∧ RE mem mem' ∧ RG (rState mem c).2 mem' n) := by
  obtain ⟨hP9, hN, ⟨hn4, ho0, ho1, ho2⟩, hCh, hDr, hM, ⟨hW80, hW82, hW84⟩, q86, q87, hSU, hn133⟩ := id hU
  obtain ⟨hN5, hN3⟩ := id hN
  obtain ⟨hM4, hM9⟩ := id hM
  obtain ⟨hW8, hWA, -, -⟩ := id hW80
  have hIO := hRI.1
  have hKO := hRI.2.1
  have ht9 := hRI.2.2.1
  have hq0 := hRI.2.2.2.1
  have hty := hRI.2.2.2.2.1
  have hNR := hG.1
  have hNR1 : mem 2 1 = mem 88 19 := hNR.1
  refine PM.of (by decide) (by decide) (Nat.le_refl _) (Nat.le_of_ble_eq_true rfl) ?_
  refine pw_iload_n 1 rfl dX9_state_0 rfl ?_
  refine pw_callS (d' := d - 1) (As := [_]) dX9_state_1 ok_X9_isChest kw_403 (by omega) rfl (Nat.le_of_ble_eq_true rfl) (p_isChest (d - 1) (by omega) n ok _ _ (by omega)) (Nat.le_refl _) (Or.inl rfl) (fun r ok1 mem1 hq => ?_)
  obtain ⟨rfl, rfl, rfl⟩ := hq
  refine pw_if_eq 23 (by decide) dX9_state_4 (by split <;> omega) (fun c4 => ?_) (fun c4 => ?_)
  · skip
    rw [bz_0] at c4
    refine pw_aload_n 0 rfl dX9_state_23 rfl ?_
    refine pw_bipush dX9_state_24 (by decide) ?_
    refine pw_callV (d' := d - 1) (As := [_]) (ci := 9) dX9_state_26 ok_X9_refused kw_406 rfl rfl (Of.o (by assumption)) (by omega) rfl (Nat.le_of_ble_eq_true rfl) (p_refused (d - 1) (by omega) n ok _ hP9 _ (by omega)) (Nat.le_refl _) (Or.inl rfl) (fun r ok1 mem1 hq => ?_)
    obtain ⟨rfl, rfl, rfl⟩ := hq
    refine pw_iret dX9_state_29 rfl rfl ?_
    have e9 : rState mem c = rRef mem (-2) := by
      unfold rState; (repeat' split) <;> first | rfl | (exfalso; omega) | contradiction
    rw [e9]; exact ⟨rfl, rfl, RE1 _ _, RG_st hG hIO hKO _⟩
  · skip
    rw [bz_n] at c4
    obtain ⟨b, hbc⟩ : ∃ b : Nat, (b : Int) = 5 + 18 * c := ⟨(5 + 18 * c).toNat, by omega⟩
    have hC : ChUp n ok b := hCh b (by omega)
    have hok : ok 4 (c).toNat = true := by rcases (show c = 0 ∨ c = 1 ∨ c = 2 by omega) with e | e | e <;> (rw [e]; assumption)
    obtain ⟨hS, hV, hJ, hKR⟩ := hG.2.1 c b (by omega) (by omega) hbc
    have hI := hIO c (by omega) (by omega)
    have hOk := hI.ok
    obtain ⟨hR, hD, hSo⟩ := id hS
    obtain ⟨hC0, ⟨hC1, hC2, hC3, hC4, hC5, hC6, hC7⟩, hC8, ⟨hC9, hC10, hC11, hC12, hC13, hC14, hC15⟩, hC16, hC17, hb5, hb59⟩ := id hC
    refine pw_aload_n 0 rfl dX9_state_7 rfl ?_
    refine pw_aload_n 0 rfl dX9_state_8 rfl ?_
    refine pw_gR 1 4 dX9_state_9 cOk9 (by assumption) (by decide) kw_348 (by decide) rfl ?_
    refine pw_iload_n 1 rfl dX9_state_12 rfl ?_
    refine pw_aaload (L := 3) dX9_state_13 (by omega) (by omega) rfl rfl (by decide) (by omega) (by omega) b hbc hok ?_
    refine pw_callV (d' := d - 1) (As := []) (ci := 0) dX9_state_14 ok_X0_number kw_789 rfl rfl (Of.o (by assumption)) (by omega) rfl (Nat.le_of_ble_eq_true rfl) (h_number (d - 1) (by omega) n ok mem hN b hC mem c (aAt mem c) hI hS hV hOk.2.1) (Nat.le_refl _) (Or.inl rfl) (fun r ok1 mem1 hq => ?_)
    obtain ⟨rfl, rfl, rfl⟩ := hq
    rw [← aNum_v mem c 16 (by omega)]
    refine pw_callV (d' := d - 1) (As := [_]) (ci := 9) dX9_state_17 ok_X9_answered kw_423 rfl rfl (Of.o (by assumption)) (by omega) rfl (Nat.le_of_ble_eq_true rfl) (p_answered (d - 1) (by omega) n ok _ hP9 _) (Nat.le_refl _) (Or.inl rfl) (fun r ok1 mem1 hq => ?_)
    obtain ⟨rfl, rfl, rfl⟩ := hq
    refine pw_goto 29 (by decide) dX9_state_20 ?_
    refine pw_iret dX9_state_29 rfl rfl ?_
    have e9 : rState mem c = rSay mem (aNum mem c 16) := by
      unfold rState; (repeat' split) <;> first | rfl | (exfalso; omega) | contradiction
    rw [e9]; exact ⟨rfl, rfl, RE1 _ _, RG_st hG hIO hKO _⟩
theorem rp_split {c s : Int} {A m m' : pM} {r : Option pV} (h : (¬ (0 ≤ c ∧ c ≤ 2) ∧ r = some (vi (-2)) ∧ m = m') ∨ ((0 ≤ c ∧ c ≤ 2) ∧ ¬ (0 ≤ s ∧ s ≤ 15) ∧ r = some (vi (-3)) ∧ m = m') ∨ ((0 ≤ c ∧ c ≤ 2) ∧ (0 ≤ s ∧ s ≤ 15) ∧ aComes A c s ≠ 0 ∧ r = some (vi (-10 - aComes A c s)) ∧ nMt m (aComes A c s) = m') ∨ ((0 ≤ c ∧ c ≤ 2) ∧ (0 ≤ s ∧ s ≤ 15) ∧ aComes A c s = 0 ∧ r = some (vi 0) ∧ m = m')) : ∃ x : Int, r = some (vi x) ∧ (-13 ≤ x ∧ x ≤ 0) ∧ ((x = 0 ∧ (0 ≤ c ∧ c ≤ 2) ∧ (0 ≤ s ∧ s ≤ 15) ∧ aComes A c s = 0 ∧ m = m') ∨ (x ≠ 0 ∧ ((¬ (0 ≤ c ∧ c ≤ 2) ∧ x = -2 ∧ m = m') ∨ ((0 ≤ c ∧ c ≤ 2) ∧ ¬ (0 ≤ s ∧ s ≤ 15) ∧ x = -3 ∧ m = m') ∨ ((0 ≤ c ∧ c ≤ 2) ∧ (0 ≤ s ∧ s ≤ 15) ∧ aComes A c s ≠ 0 ∧ x = -10 - aComes A c s ∧ nMt m (aComes A c s) = m')))) := by
  have hc := aComes_ran A c s
  rcases h with h | h | h | h
  · exact ⟨-2, h.2.1, by omega, Or.inr ⟨by omega, Or.inl ⟨h.1, rfl, h.2.2⟩⟩⟩
  · exact ⟨-3, h.2.2.1, by omega, Or.inr ⟨by omega, Or.inr (Or.inl ⟨h.1, h.2.1, rfl, h.2.2.2⟩)⟩⟩
  · exact ⟨-10 - aComes A c s, h.2.2.2.1, by omega, Or.inr ⟨by omega, Or.inr (Or.inr ⟨h.1, h.2.1, h.2.2.1, rfl, h.2.2.2.2⟩)⟩⟩
  · exact ⟨0, h.2.2.2.1, by omega, Or.inl ⟨rfl, h.1, h.2.1, h.2.2.1, h.2.2.2.2⟩⟩
set_option maxHeartbeats 4000000 in
set_option maxRecDepth 100000 in
theorem p_told (d : Nat) (hd : 2 ≤ d) (n : Nat) (ok : pO) (mem : pM) (hU : ClUp n ok) (hG : RG mem mem n) (hRI : RI mem) (c s w : Int) (hc : -2147483648 ≤ c ∧ c ≤ 2147483647) (hs : -2147483648 ≤ s ∧ s ≤ 2147483647) (hw : -2147483648 ≤ w ∧ w ≤ 2147483647)  : PM mi_X9_told d [vr 1, vi c, vi s, vi w] n ok mem n (fun r ok' mem' => r = some (vi (rTold mem c s w).1) ∧ ok = ok' ∧ RE mem mem' ∧ RG (rTold mem c s w).2 mem' n) := by
  obtain ⟨hP9, hN, ⟨hn4, ho0, ho1, ho2⟩, hCh, hDr, hM, ⟨hW80, hW82, hW84⟩, q86, q87, hSU, hn133⟩ := id hU
  obtain ⟨hN5, hN3⟩ := id hN
  obtain ⟨hM4, hM9⟩ := id hM
  obtain ⟨hW8, hWA, -, -⟩ := id hW80
  have hIO := hRI.1
  have hKO := hRI.2.1
  have ht9 := hRI.2.2.1
  have hq0 := hRI.2.2.2.1
  have hty := hRI.2.2.2.2.1
  have hNR := hG.1
  have hNR1 : mem 2 1 = mem 88 19 := hNR.1
  refine PM.of (by decide) (by decide) (Nat.le_refl _) (Nat.le_of_ble_eq_true rfl) ?_
  refine pw_iload_n 1 rfl dX9_told_0 rfl ?_
  refine pw_callS (d' := d - 1) (As := [_]) dX9_told_1 ok_X9_isChest kw_403 (by omega) rfl (Nat.le_of_ble_eq_true rfl) (p_isChest (d - 1) (by omega) n ok _ _ (by omega)) (Nat.le_refl _) (Or.inl rfl) (fun r ok1 mem1 hq => ?_)
  obtain ⟨rfl, rfl, rfl⟩ := hq
  refine pw_if_eq 16 (by decide) dX9_told_4 (by split <;> omega) (fun c4 => ?_) (fun c4 => ?_)
  · skip
    rw [bz_0] at c4
    refine pw_aload_n 0 rfl dX9_told_16 rfl ?_
    refine pw_bipush dX9_told_17 (by decide) ?_
    refine pw_callV (d' := d - 1) (As := [_]) (ci := 9) dX9_told_19 ok_X9_refused kw_406 rfl rfl (Of.o (by assumption)) (by omega) rfl (Nat.le_of_ble_eq_true rfl) (p_refused (d - 1) (by omega) n ok _ hP9 _ (by omega)) (Nat.le_refl _) (Or.inl rfl) (fun r ok1 mem1 hq => ?_)
    obtain ⟨rfl, rfl, rfl⟩ := hq
    refine pw_iret dX9_told_22 rfl rfl ?_
    have e9 : rTold mem c s w = rRef mem (-2) := by
      unfold rTold; (repeat' split) <;> first | rfl | (exfalso; omega) | contradiction
    rw [e9]; exact ⟨rfl, rfl, RE1 _ _, RG_st hG hIO hKO _⟩
  · skip
    rw [bz_n] at c4
    refine pw_iload_n 3 rfl dX9_told_7 rfl ?_
    refine pw_if_lt 16 (by decide) dX9_told_8 (by omega) (fun c8 => ?_) (fun c8 => ?_)
    · skip
      refine pw_aload_n 0 rfl dX9_told_16 rfl ?_
      refine pw_bipush dX9_told_17 (by decide) ?_
      refine pw_callV (d' := d - 1) (As := [_]) (ci := 9) dX9_told_19 ok_X9_refused kw_406 rfl rfl (Of.o (by assumption)) (by omega) rfl (Nat.le_of_ble_eq_true rfl) (p_refused (d - 1) (by omega) n ok _ hP9 _ (by omega)) (Nat.le_refl _) (Or.inl rfl) (fun r ok1 mem1 hq => ?_)
      obtain ⟨rfl, rfl, rfl⟩ := hq
      refine pw_iret dX9_told_22 rfl rfl ?_
      have e9 : rTold mem c s w = rRef mem (-2) := by
        unfold rTold; (repeat' split) <;> first | rfl | (exfalso; omega) | contradiction
      rw [e9]; exact ⟨rfl, rfl, RE1 _ _, RG_st hG hIO hKO _⟩
    · skip
      refine pw_iload_n 3 rfl dX9_told_11 rfl ?_
      refine pw_iconst dX9_told_12 ?_
      refine pw_icmp_le 23 (by decide) dX9_told_13 (by omega) (by omega) (fun c13 => ?_) (fun c13 => ?_)
      · skip
        refine pw_aload_n 0 rfl dX9_told_23 rfl ?_
        refine pw_iload_n 1 rfl dX9_told_24 rfl ?_
        refine pw_iload_n 2 rfl dX9_told_25 rfl ?_
        refine pw_callV (d' := d - 1) (As := [_, _]) (ci := 9) dX9_told_26 ok_X9_refusalOfPart kw_453 rfl rfl (Of.o (by assumption)) (by omega) rfl (Nat.le_of_ble_eq_true rfl) (p_refusalOfPart (d - 1) (by omega) n ok mem hU mem hG hRI c s (by omega) (by omega)) (Nat.le_refl _) (Or.inl rfl) (fun r ok1 m1 hq => ?_)
        obtain ⟨rfl, hrp⟩ := hq
        obtain ⟨x, rfl, hxr, hrs⟩ := rp_split hrp
        clear hrp
        refine pw_istore dX9_told_29 (by decide) ?_
        refine pw_iload dX9_told_31 rfl ?_
        refine pw_if_eq 43 (by decide) dX9_told_33 (by omega) (fun c33 => ?_) (fun c33 => ?_)
        · skip
          have hz : x = 0 ∧ (0 ≤ c ∧ c ≤ 2) ∧ (0 ≤ s ∧ s ≤ 15) ∧ aComes mem c s = 0 ∧ mem = m1 := by
            rcases hrs with z | z
            · exact z
            · exact absurd c33 z.1
          obtain ⟨hx0, hc2, hs2, hcz, hm1⟩ := hz
          subst hm1
          obtain ⟨b, hbc⟩ : ∃ b : Nat, (b : Int) = 5 + 18 * c := ⟨(5 + 18 * c).toNat, by omega⟩
          have hC : ChUp n ok b := hCh b (by omega)
          have hok : ok 4 (c).toNat = true := by rcases (show c = 0 ∨ c = 1 ∨ c = 2 by omega) with e | e | e <;> (rw [e]; assumption)
          obtain ⟨hS, hV, hJ, hKR⟩ := hG.2.1 c b (by omega) (by omega) hbc
          have hI := hIO c (by omega) (by omega)
          have hOk := hI.ok
          obtain ⟨hR, hD, hSo⟩ := id hS
          obtain ⟨hC0, ⟨hC1, hC2, hC3, hC4, hC5, hC6, hC7⟩, hC8, ⟨hC9, hC10, hC11, hC12, hC13, hC14, hC15⟩, hC16, hC17, hb5, hb59⟩ := id hC
          have hkn := aComes_kind hcz
          have e2 : mem (b + 2) s = mem 90 (16 * c + s) := (hR.2.1 s hs2.1 hs2.2).1
          have e3 : mem (b + 3) s = mem 91 (16 * c + s) := by rw [(hR.2.1 s hs2.1 hs2.2).2.1]; unfold eSp; rw [if_neg hkn]
          have e4 : mem (b + 4) s = mem 92 (16 * c + s) := by rw [hV s hs2.1 hs2.2]; unfold eAv; rw [if_neg hkn]
          have e5 : mem (b + 5) s = mem 93 (16 * c + s) := (hR.2.1 s hs2.1 hs2.2).2.2 hkn
          refine pw_aload_n 0 rfl dX9_told_43 rfl ?_
          refine pw_gR 1 4 dX9_told_44 cOk9 (by assumption) (by decide) kw_348 (by decide) rfl ?_
          refine pw_iload_n 1 rfl dX9_told_47 rfl ?_
          refine pw_aaload (L := 3) dX9_told_48 (by omega) (by omega) rfl rfl (by decide) (by omega) (by omega) b hbc hok ?_
          refine pw_astore dX9_told_49 (by decide) ?_
          refine pw_iload_n 3 rfl dX9_told_51 rfl ?_
          refine pw_tab1 (0) 80 dX9_told_52 (by omega) (by omega) (by omega) rfl rfl (fun c52 => ?_) (fun c52_0 => ?_)
          · skip
            refine pw_aload_n 0 rfl dX9_told_80 rfl ?_
            refine pw_aload dX9_told_81 rfl ?_
            refine pw_gR 2 (b + 2) dX9_told_83 cOk0 (by assumption) (by decide) kw_233 (by decide) rfl ?_
            refine pw_iload_n 2 rfl dX9_told_86 rfl ?_
            refine pw_iaload dX9_told_87 (by assumption) (by omega) (by omega) (fun r87 => ?_)
            rw [e2] at r87 ⊢
            refine pw_callV (d' := d - 1) (As := [_]) (ci := 9) dX9_told_88 ok_X9_answered kw_423 rfl rfl (Of.o (by assumption)) (by omega) rfl (Nat.le_of_ble_eq_true rfl) (p_answered (d - 1) (by omega) n ok _ hP9 _) (Nat.le_refl _) (Or.inl rfl) (fun r ok1 mem1 hq => ?_)
            obtain ⟨rfl, rfl, rfl⟩ := hq
            refine pw_iret dX9_told_91 rfl rfl ?_
            have e9 : rTold mem c s w = rSay mem (mem 90 (16 * c + s)) := by
              unfold rTold; (repeat' split) <;> first | rfl | (exfalso; omega) | contradiction
            rw [e9]; exact ⟨rfl, rfl, RE1 _ _, RG_st hG hIO hKO _⟩
          · skip
            refine pw_tab1 (1) 92 dX9_told_52 (by omega) (by omega) (by omega) rfl rfl (fun c52 => ?_) (fun c52_1 => ?_)
            · skip
              refine pw_aload_n 0 rfl dX9_told_92 rfl ?_
              refine pw_aload dX9_told_93 rfl ?_
              refine pw_gR 3 (b + 3) dX9_told_95 cOk0 (by assumption) (by decide) kw_237 (by decide) rfl ?_
              refine pw_iload_n 2 rfl dX9_told_98 rfl ?_
              refine pw_iaload dX9_told_99 (by assumption) (by omega) (by omega) (fun r99 => ?_)
              rw [e3] at r99 ⊢
              refine pw_callV (d' := d - 1) (As := [_]) (ci := 9) dX9_told_100 ok_X9_answered kw_423 rfl rfl (Of.o (by assumption)) (by omega) rfl (Nat.le_of_ble_eq_true rfl) (p_answered (d - 1) (by omega) n ok _ hP9 _) (Nat.le_refl _) (Or.inl rfl) (fun r ok1 mem1 hq => ?_)
              obtain ⟨rfl, rfl, rfl⟩ := hq
              refine pw_iret dX9_told_103 rfl rfl ?_
              have e9 : rTold mem c s w = rSay mem (mem 91 (16 * c + s)) := by
                unfold rTold; (repeat' split) <;> first | rfl | (exfalso; omega) | contradiction
              rw [e9]; exact ⟨rfl, rfl, RE1 _ _, RG_st hG hIO hKO _⟩
            · skip
              refine pw_tab1 (2) 104 dX9_told_52 (by omega) (by omega) (by omega) rfl rfl (fun c52 => ?_) (fun c52_2 => ?_)
              · skip
                refine pw_aload_n 0 rfl dX9_told_104 rfl ?_
                refine pw_aload dX9_told_105 rfl ?_
                refine pw_gR 4 (b + 4) dX9_told_107 cOk0 (by assumption) (by decide) kw_240 (by decide) rfl ?_
                refine pw_iload_n 2 rfl dX9_told_110 rfl ?_
                refine pw_iaload dX9_told_111 (by assumption) (by omega) (by omega) (fun r111 => ?_)
                rw [e4] at r111 ⊢
                refine pw_callV (d' := d - 1) (As := [_]) (ci := 9) dX9_told_112 ok_X9_answered kw_423 rfl rfl (Of.o (by assumption)) (by omega) rfl (Nat.le_of_ble_eq_true rfl) (p_answered (d - 1) (by omega) n ok _ hP9 _) (Nat.le_refl _) (Or.inl rfl) (fun r ok1 mem1 hq => ?_)
                obtain ⟨rfl, rfl, rfl⟩ := hq
                refine pw_iret dX9_told_115 rfl rfl ?_
                have e9 : rTold mem c s w = rSay mem (mem 92 (16 * c + s)) := by
                  unfold rTold; (repeat' split) <;> first | rfl | (exfalso; omega) | contradiction
                rw [e9]; exact ⟨rfl, rfl, RE1 _ _, RG_st hG hIO hKO _⟩
              · skip
                refine pw_tableOut 116 dX9_told_52 (by omega) (by omega) rfl ?_
                refine pw_aload_n 0 rfl dX9_told_116 rfl ?_
                refine pw_aload dX9_told_117 rfl ?_
                refine pw_gR 5 (b + 5) dX9_told_119 cOk0 (by assumption) (by decide) kw_243 (by decide) rfl ?_
                refine pw_iload_n 2 rfl dX9_told_122 rfl ?_
                refine pw_iaload dX9_told_123 (by assumption) (by omega) (by omega) (fun r123 => ?_)
                rw [e5] at r123 ⊢
                refine pw_callV (d' := d - 1) (As := [_]) (ci := 9) dX9_told_124 ok_X9_answered kw_423 rfl rfl (Of.o (by assumption)) (by omega) rfl (Nat.le_of_ble_eq_true rfl) (p_answered (d - 1) (by omega) n ok _ hP9 _) (Nat.le_refl _) (Or.inl rfl) (fun r ok1 mem1 hq => ?_)
                obtain ⟨rfl, rfl, rfl⟩ := hq
                refine pw_iret dX9_told_127 rfl rfl ?_
                have e9 : rTold mem c s w = rSay mem (mem 93 (16 * c + s)) := by
                  unfold rTold; (repeat' split) <;> first | rfl | (exfalso; omega) | contradiction
                rw [e9]; exact ⟨rfl, rfl, RE1 _ _, RG_st hG hIO hKO _⟩
        · skip
          refine pw_aload_n 0 rfl dX9_told_36 rfl ?_
          refine pw_iload dX9_told_37 rfl ?_
          refine pw_callV (d' := d - 1) (As := [_]) (ci := 9) dX9_told_39 ok_X9_refused kw_406 rfl rfl (Of.o (by assumption)) (by omega) rfl (Nat.le_of_ble_eq_true rfl) (p_refused (d - 1) (by omega) n ok _ hP9 _ (by omega)) (Nat.le_refl _) (Or.inl rfl) (fun r ok1 mem1 hq => ?_)
          obtain ⟨rfl, rfl, rfl⟩ := hq
          refine pw_iret dX9_told_42 rfl rfl ?_
          rcases hrs with z | z
          · exact absurd z.1 c33
          · rcases z.2 with y | y | y
            · obtain ⟨y1, y2, y3⟩ := y
              subst y3; subst y2
              have e9 : rTold mem c s w = rRef mem (-2) := by
                unfold rTold; (repeat' split) <;> first | rfl | (exfalso; omega) | contradiction
              rw [e9]; exact ⟨rfl, rfl, RE1 _ _, RG_st hG hIO hKO _⟩
            · obtain ⟨y1, y2, y3, y4⟩ := y
              subst y4; subst y3
              have e9 : rTold mem c s w = rRef mem (-3) := by
                unfold rTold; (repeat' split) <;> first | rfl | (exfalso; omega) | contradiction
              rw [e9]; exact ⟨rfl, rfl, RE1 _ _, RG_st hG hIO hKO _⟩
            · obtain ⟨y1, y2, y3, y4, y5⟩ := y
              subst y4
              have e9 : rTold mem c s w = rMet mem (aComes mem c s) := by
                unfold rTold; (repeat' split) <;> first | rfl | (exfalso; omega) | contradiction
              rw [e9, ← y5]; exact ⟨rfl, rfl, RE_met _ _ _, RG_met hG hRI _⟩
      · skip
        refine pw_aload_n 0 rfl dX9_told_16 rfl ?_
        refine pw_bipush dX9_told_17 (by decide) ?_
        refine pw_callV (d' := d - 1) (As := [_]) (ci := 9) dX9_told_19 ok_X9_refused kw_406 rfl rfl (Of.o (by assumption)) (by omega) rfl (Nat.le_of_ble_eq_true rfl) (p_refused (d - 1) (by omega) n ok _ hP9 _ (by omega)) (Nat.le_refl _) (Or.inl rfl) (fun r ok1 mem1 hq => ?_)
        obtain ⟨rfl, rfl, rfl⟩ := hq
        refine pw_iret dX9_told_22 rfl rfl ?_
        have e9 : rTold mem c s w = rRef mem (-2) := by
          unfold rTold; (repeat' split) <;> first | rfl | (exfalso; omega) | contradiction
        rw [e9]; exact ⟨rfl, rfl, RE1 _ _, RG_st hG hIO hKO _⟩
set_option maxHeartbeats 4000000 in
set_option maxRecDepth 100000 in
theorem p_conditionTold (d : Nat) (hd : 2 ≤ d) (n : Nat) (ok : pO) (mem : pM) (hU : ClUp n ok) (hG : RG mem mem n) (hRI : RI mem) (c k w : Int) (hc : -2147483648 ≤ c ∧ c ≤ 2147483647) (hk : -2147483648 ≤ k ∧ k ≤ 2147483647) (hw : -2147483648 ≤ w ∧ w ≤ 2147483647)  : PM mi_X9_conditionTold d [vr 1, vi c, vi k, vi w] n ok mem n (fun r ok' mem' => r = some (vi (rCTold mem c k w).1) ∧ ok = ok' ∧ RE mem mem' ∧ RG (rCTold mem c k w).2 mem' n) := by
  obtain ⟨hP9, hN, ⟨hn4, ho0, ho1, ho2⟩, hCh, hDr, hM, ⟨hW80, hW82, hW84⟩, q86, q87, hSU, hn133⟩ := id hU
  obtain ⟨hN5, hN3⟩ := id hN
  obtain ⟨hM4, hM9⟩ := id hM
  obtain ⟨hW8, hWA, -, -⟩ := id hW80
  have hIO := hRI.1
  have hKO := hRI.2.1
  have ht9 := hRI.2.2.1
  have hq0 := hRI.2.2.2.1
  have hty := hRI.2.2.2.2.1
  have hNR := hG.1
  have hNR1 : mem 2 1 = mem 88 19 := hNR.1
  refine PM.of (by decide) (by decide) (Nat.le_refl _) (Nat.le_of_ble_eq_true rfl) ?_
  refine pw_aload_n 0 rfl dX9_conditionTold_0 rfl ?_
  refine pw_iload_n 1 rfl dX9_conditionTold_1 rfl ?_
  refine pw_iload_n 2 rfl dX9_conditionTold_2 rfl ?_
  refine pw_callV (d' := d - 1) (As := [_, _]) (ci := 9) dX9_conditionTold_3 ok_X9_isCondition kw_477 rfl rfl (Of.o (by assumption)) (by omega) rfl (Nat.le_of_ble_eq_true rfl) (p_isCondition (d - 1) (by omega) n ok _ hU hG hRI _ _ (by omega) (by omega)) (Nat.le_refl _) (Or.inl rfl) (fun r ok1 mem1 hq => ?_)
  obtain ⟨rfl, rfl, rfl⟩ := hq
  refine pw_if_eq 19 (by decide) dX9_conditionTold_6 (by split <;> omega) (fun c6 => ?_) (fun c6 => ?_)
  · skip
    rw [bz_0] at c6
    refine pw_aload_n 0 rfl dX9_conditionTold_19 rfl ?_
    refine pw_bipush dX9_conditionTold_20 (by decide) ?_
    refine pw_callV (d' := d - 1) (As := [_]) (ci := 9) dX9_conditionTold_22 ok_X9_refused kw_406 rfl rfl (Of.o (by assumption)) (by omega) rfl (Nat.le_of_ble_eq_true rfl) (p_refused (d - 1) (by omega) n ok _ hP9 _ (by omega)) (Nat.le_refl _) (Or.inl rfl) (fun r ok1 mem1 hq => ?_)
    obtain ⟨rfl, rfl, rfl⟩ := hq
    refine pw_iret dX9_conditionTold_25 rfl rfl ?_
    have e9 : rCTold mem c k w = rRef mem (-2) := by
      unfold rCTold; (repeat' split) <;> first | rfl | (exfalso; omega) | contradiction
    rw [e9]; exact ⟨rfl, rfl, RE1 _ _, RG_st hG hIO hKO _⟩
  · skip
    rw [bz_n] at c6
    refine pw_iload_n 3 rfl dX9_conditionTold_9 rfl ?_
    refine pw_if_lt 19 (by decide) dX9_conditionTold_10 (by omega) (fun c10 => ?_) (fun c10 => ?_)
    · skip
      refine pw_aload_n 0 rfl dX9_conditionTold_19 rfl ?_
      refine pw_bipush dX9_conditionTold_20 (by decide) ?_
      refine pw_callV (d' := d - 1) (As := [_]) (ci := 9) dX9_conditionTold_22 ok_X9_refused kw_406 rfl rfl (Of.o (by assumption)) (by omega) rfl (Nat.le_of_ble_eq_true rfl) (p_refused (d - 1) (by omega) n ok _ hP9 _ (by omega)) (Nat.le_refl _) (Or.inl rfl) (fun r ok1 mem1 hq => ?_)
      obtain ⟨rfl, rfl, rfl⟩ := hq
      refine pw_iret dX9_conditionTold_25 rfl rfl ?_
      have e9 : rCTold mem c k w = rRef mem (-2) := by
        unfold rCTold; (repeat' split) <;> first | rfl | (exfalso; omega) | contradiction
      rw [e9]; exact ⟨rfl, rfl, RE1 _ _, RG_st hG hIO hKO _⟩
    · skip
      refine pw_iload_n 3 rfl dX9_conditionTold_13 rfl ?_
      refine pw_bipush dX9_conditionTold_14 (by decide) ?_
      refine pw_icmp_le 26 (by decide) dX9_conditionTold_16 (by omega) (by omega) (fun c16 => ?_) (fun c16 => ?_)
      · skip
        obtain ⟨b, hbc⟩ : ∃ b : Nat, (b : Int) = 5 + 18 * c := ⟨(5 + 18 * c).toNat, by omega⟩
        have hC : ChUp n ok b := hCh b (by omega)
        have hok : ok 4 (c).toNat = true := by rcases (show c = 0 ∨ c = 1 ∨ c = 2 by omega) with e | e | e <;> (rw [e]; assumption)
        obtain ⟨hS, hV, hJ, hKR⟩ := hG.2.1 c b (by omega) (by omega) hbc
        have hI := hIO c (by omega) (by omega)
        have hOk := hI.ok
        obtain ⟨hR, hD, hSo⟩ := id hS
        obtain ⟨hC0, ⟨hC1, hC2, hC3, hC4, hC5, hC6, hC7⟩, hC8, ⟨hC9, hC10, hC11, hC12, hC13, hC14, hC15⟩, hC16, hC17, hb5, hb59⟩ := id hC
        have hcr := hR.2.2.2 k (by omega) (by omega)
        have hk9 := hI.2.2.1.2 k (by omega) (by omega)
        have hnc := hI.2.2.1.1
        refine pw_aload_n 0 rfl dX9_conditionTold_26 rfl ?_
        refine pw_gR 1 4 dX9_conditionTold_27 cOk9 (by assumption) (by decide) kw_348 (by decide) rfl ?_
        refine pw_iload_n 1 rfl dX9_conditionTold_30 rfl ?_
        refine pw_aaload (L := 3) dX9_conditionTold_31 (by omega) (by omega) rfl rfl (by decide) (by omega) (by omega) b hbc hok ?_
        refine pw_gR 8 (b + 8) dX9_conditionTold_32 cOk0 (by assumption) (by decide) kw_248 (by decide) rfl ?_
        refine pw_astore dX9_conditionTold_35 (by decide) ?_
        refine pw_iload_n 3 rfl dX9_conditionTold_37 rfl ?_
        refine pw_tab1 (0) 64 dX9_conditionTold_38 (by omega) (by omega) (by omega) rfl rfl (fun c38 => ?_) (fun c38_0 => ?_)
        · skip
          refine pw_aload_n 0 rfl dX9_conditionTold_64 rfl ?_
          refine pw_aload dX9_conditionTold_65 rfl ?_
          refine pw_gR 0 (b + 9) dX9_conditionTold_67 cOk1 (by assumption) (by decide) kw_134 (by decide) rfl ?_
          refine pw_iload_n 2 rfl dX9_conditionTold_70 rfl ?_
          refine pw_iaload dX9_conditionTold_71 (by assumption) (by omega) (by omega) (fun r71 => ?_)
          rw [hcr.1] at r71 ⊢
          refine pw_callV (d' := d - 1) (As := [_]) (ci := 9) dX9_conditionTold_72 ok_X9_answered kw_423 rfl rfl (Of.o (by assumption)) (by omega) rfl (Nat.le_of_ble_eq_true rfl) (p_answered (d - 1) (by omega) n ok _ hP9 _) (Nat.le_refl _) (Or.inl rfl) (fun r ok1 mem1 hq => ?_)
          obtain ⟨rfl, rfl, rfl⟩ := hq
          refine pw_iret dX9_conditionTold_75 rfl rfl ?_
          have e9 : rCTold mem c k w = rSay mem (mem 95 (40 * c + k)) := by
            unfold rCTold; (repeat' split) <;> first | rfl | (exfalso; omega) | contradiction
          rw [e9]; exact ⟨rfl, rfl, RE1 _ _, RG_st hG hIO hKO _⟩
        · skip
          refine pw_tab1 (1) 76 dX9_conditionTold_38 (by omega) (by omega) (by omega) rfl rfl (fun c38 => ?_) (fun c38_1 => ?_)
          · skip
            refine pw_aload_n 0 rfl dX9_conditionTold_76 rfl ?_
            refine pw_aload dX9_conditionTold_77 rfl ?_
            refine pw_gR 1 (b + 10) dX9_conditionTold_79 cOk1 (by assumption) (by decide) kw_138 (by decide) rfl ?_
            refine pw_iload_n 2 rfl dX9_conditionTold_82 rfl ?_
            refine pw_iaload dX9_conditionTold_83 (by assumption) (by omega) (by omega) (fun r83 => ?_)
            rw [hcr.2.1] at r83 ⊢
            refine pw_callV (d' := d - 1) (As := [_]) (ci := 9) dX9_conditionTold_84 ok_X9_answered kw_423 rfl rfl (Of.o (by assumption)) (by omega) rfl (Nat.le_of_ble_eq_true rfl) (p_answered (d - 1) (by omega) n ok _ hP9 _) (Nat.le_refl _) (Or.inl rfl) (fun r ok1 mem1 hq => ?_)
            obtain ⟨rfl, rfl, rfl⟩ := hq
            refine pw_iret dX9_conditionTold_87 rfl rfl ?_
            have e9 : rCTold mem c k w = rSay mem (mem 96 (40 * c + k)) := by
              unfold rCTold; (repeat' split) <;> first | rfl | (exfalso; omega) | contradiction
            rw [e9]; exact ⟨rfl, rfl, RE1 _ _, RG_st hG hIO hKO _⟩
          · skip
            refine pw_tab1 (2) 88 dX9_conditionTold_38 (by omega) (by omega) (by omega) rfl rfl (fun c38 => ?_) (fun c38_2 => ?_)
            · skip
              refine pw_aload_n 0 rfl dX9_conditionTold_88 rfl ?_
              refine pw_aload dX9_conditionTold_89 rfl ?_
              refine pw_gR 2 (b + 11) dX9_conditionTold_91 cOk1 (by assumption) (by decide) kw_141 (by decide) rfl ?_
              refine pw_iload_n 2 rfl dX9_conditionTold_94 rfl ?_
              refine pw_iaload dX9_conditionTold_95 (by assumption) (by omega) (by omega) (fun r95 => ?_)
              rw [hcr.2.2.1] at r95 ⊢
              refine pw_callV (d' := d - 1) (As := [_]) (ci := 9) dX9_conditionTold_96 ok_X9_answered kw_423 rfl rfl (Of.o (by assumption)) (by omega) rfl (Nat.le_of_ble_eq_true rfl) (p_answered (d - 1) (by omega) n ok _ hP9 _) (Nat.le_refl _) (Or.inl rfl) (fun r ok1 mem1 hq => ?_)
              obtain ⟨rfl, rfl, rfl⟩ := hq
              refine pw_iret dX9_conditionTold_99 rfl rfl ?_
              have e9 : rCTold mem c k w = rSay mem (mem 97 (40 * c + k)) := by
                unfold rCTold; (repeat' split) <;> first | rfl | (exfalso; omega) | contradiction
              rw [e9]; exact ⟨rfl, rfl, RE1 _ _, RG_st hG hIO hKO _⟩
            · skip
              refine pw_tableOut 100 dX9_conditionTold_38 (by omega) (by omega) rfl ?_
              refine pw_aload_n 0 rfl dX9_conditionTold_100 rfl ?_
              refine pw_iload_n 3 rfl dX9_conditionTold_101 rfl ?_
              refine pw_iconst dX9_conditionTold_102 ?_
              refine pw_isub dX9_conditionTold_103 ?_
              refine pw_aload dX9_conditionTold_104 rfl ?_
              refine pw_gR 2 (b + 11) dX9_conditionTold_106 cOk1 (by assumption) (by decide) kw_141 (by decide) rfl ?_
              refine pw_iload_n 2 rfl dX9_conditionTold_109 rfl ?_
              refine pw_iaload dX9_conditionTold_110 (by assumption) (by omega) (by omega) (fun r110 => ?_)
              rw [hcr.2.2.1] at r110 ⊢
              refine pw_icmp_ge 126 (by decide) dX9_conditionTold_111 (by omega) (by omega) (fun c111 => ?_) (fun c111 => ?_)
              · skip
                refine pw_iconst dX9_conditionTold_126 ?_
                refine pw_callV (d' := d - 1) (As := [_]) (ci := 9) dX9_conditionTold_127 ok_X9_answered kw_423 rfl rfl (Of.o (by assumption)) (by omega) rfl (Nat.le_of_ble_eq_true rfl) (p_answered (d - 1) (by omega) n ok _ hP9 _) (Nat.le_refl _) (Or.inl rfl) (fun r ok1 mem1 hq => ?_)
                obtain ⟨rfl, rfl, rfl⟩ := hq
                refine pw_iret dX9_conditionTold_130 rfl rfl ?_
                have e9 : rCTold mem c k w = rSay mem (-1) := by
                  unfold rCTold; (repeat' split) <;> first | rfl | (exfalso; omega) | contradiction
                rw [e9]; exact ⟨rfl, rfl, RE1 _ _, RG_st hG hIO hKO _⟩
              · skip
                refine pw_aload dX9_conditionTold_114 rfl ?_
                refine pw_iload_n 2 rfl dX9_conditionTold_116 rfl ?_
                refine pw_iload_n 3 rfl dX9_conditionTold_117 rfl ?_
                refine pw_iconst dX9_conditionTold_118 ?_
                refine pw_isub dX9_conditionTold_119 ?_
                refine pw_callV (d' := d - 1) (As := [_, _]) (ci := 1) dX9_conditionTold_120 ok_X1_truthAt kw_485 rfl rfl (Of.o (by assumption)) (by omega) rfl (Nat.le_of_ble_eq_true rfl) (q_truthAt (d - 1) (by omega) n ok mem b hC k (w - 3) (by omega) (by omega)) (Nat.le_refl _) (Or.inl rfl) (fun r ok1 mem1 hq => ?_)
                obtain ⟨rfl, rfl, rfl⟩ := hq
                have hbt := hcr.2.2.2 (w - 3).toNat (by omega)
                rw [Int.toNat_of_nonneg (by omega)] at hbt
                have ht01 := hk9.2.2.2 (w - 3) (by omega) (by omega)
                have hval : (if tb (mem (b + 12) k) (w - 3).toNat = true then (1 : Int) else 0) = mem 98 (6 * (40 * c + k) + w - 3) := by
                  rw [show 6 * (40 * c + k) + w - 3 = 6 * (40 * c + k) + (w - 3) by omega]
                  by_cases q : mem 98 (6 * (40 * c + k) + (w - 3)) = 1
                  · rw [if_pos (hbt.mpr q), q]
                  · rw [if_neg (fun z => q (hbt.mp z))]; omega
                rw [hval]
                refine pw_goto 127 (by decide) dX9_conditionTold_123 ?_
                refine pw_callV (d' := d - 1) (As := [_]) (ci := 9) dX9_conditionTold_127 ok_X9_answered kw_423 rfl rfl (Of.o (by assumption)) (by omega) rfl (Nat.le_of_ble_eq_true rfl) (p_answered (d - 1) (by omega) n ok _ hP9 _) (Nat.le_refl _) (Or.inl rfl) (fun r ok1 mem1 hq => ?_)
                obtain ⟨rfl, rfl, rfl⟩ := hq
                refine pw_iret dX9_conditionTold_130 rfl rfl ?_
                have e9 : rCTold mem c k w = rSay mem (mem 98 (6 * (40 * c + k) + w - 3)) := by
                  unfold rCTold; (repeat' split) <;> first | rfl | (exfalso; omega) | contradiction
                rw [e9]; exact ⟨rfl, rfl, RE1 _ _, RG_st hG hIO hKO _⟩
      · skip
        refine pw_aload_n 0 rfl dX9_conditionTold_19 rfl ?_
        refine pw_bipush dX9_conditionTold_20 (by decide) ?_
        refine pw_callV (d' := d - 1) (As := [_]) (ci := 9) dX9_conditionTold_22 ok_X9_refused kw_406 rfl rfl (Of.o (by assumption)) (by omega) rfl (Nat.le_of_ble_eq_true rfl) (p_refused (d - 1) (by omega) n ok _ hP9 _ (by omega)) (Nat.le_refl _) (Or.inl rfl) (fun r ok1 mem1 hq => ?_)
        obtain ⟨rfl, rfl, rfl⟩ := hq
        refine pw_iret dX9_conditionTold_25 rfl rfl ?_
        have e9 : rCTold mem c k w = rRef mem (-2) := by
          unfold rCTold; (repeat' split) <;> first | rfl | (exfalso; omega) | contradiction
        rw [e9]; exact ⟨rfl, rfl, RE1 _ _, RG_st hG hIO hKO _⟩
set_option maxHeartbeats 4000000 in
set_option maxRecDepth 100000 in
theorem p_attempted (d : Nat) (hd : 1 ≤ d) (n : Nat) (ok : pO) (mem : pM) (hU : ClUp n ok) (hG : RG mem mem n) (hRI : RI mem) (w : Int) (hw : -2147483648 ≤ w ∧ w ≤ 2147483647)  : PM mi_X9_attempted d [vr 1, vi w] n ok mem n (fun r ok' mem' => r = some (vi (rAttd mem w).1) ∧ ok = ok' ∧ RE mem mem' ∧ RG (rAttd mem w).2 mem' n) := by
  obtain ⟨hP9, hN, ⟨hn4, ho0, ho1, ho2⟩, hCh, hDr, hM, ⟨hW80, hW82, hW84⟩, q86, q87, hSU, hn133⟩ := id hU
  obtain ⟨hN5, hN3⟩ := id hN
  obtain ⟨hM4, hM9⟩ := id hM
  obtain ⟨hW8, hWA, -, -⟩ := id hW80
  have hIO := hRI.1
  have hKO := hRI.2.1
  have ht9 := hRI.2.2.1
  have hq0 := hRI.2.2.2.1
  have hty := hRI.2.2.2.2.1
  have hNR := hG.1
  have hNR1 : mem 2 1 = mem 88 19 := hNR.1
  have hat := hG.2.2.2.2.1
  refine PM.of (by decide) (by decide) (Nat.le_refl _) (Nat.le_of_ble_eq_true rfl) ?_
  refine pw_iload_n 1 rfl dX9_attempted_0 rfl ?_
  refine pw_tab1 (0) 28 dX9_attempted_1 (by omega) (by omega) (by omega) rfl rfl (fun c1 => ?_) (fun c1_0 => ?_)
  · skip
    refine pw_aload_n 0 rfl dX9_attempted_28 rfl ?_
    refine pw_aload_n 0 rfl dX9_attempted_29 rfl ?_
    refine pw_gI 13 13 rfl dX9_attempted_30 cOk9 (by assumption) (by decide) kw_360 (by decide) (fun r30 => ?_)
    rw [hat.1] at r30 ⊢
    refine pw_callV (d' := d - 1) (As := [_]) (ci := 9) dX9_attempted_33 ok_X9_answered kw_423 rfl rfl (Of.o (by assumption)) (by omega) rfl (Nat.le_of_ble_eq_true rfl) (p_answered (d - 1) (by omega) n ok _ hP9 _) (Nat.le_refl _) (Or.inl rfl) (fun r ok1 mem1 hq => ?_)
    obtain ⟨rfl, rfl, rfl⟩ := hq
    refine pw_iret dX9_attempted_36 rfl rfl ?_
    have e9 : rAttd mem w = rSay mem (mem 88 28) := by
      unfold rAttd; (repeat' split) <;> first | rfl | (exfalso; omega) | contradiction
    rw [e9]; exact ⟨rfl, rfl, RE1 _ _, RG_st hG hIO hKO _⟩
  · skip
    refine pw_tab1 (1) 37 dX9_attempted_1 (by omega) (by omega) (by omega) rfl rfl (fun c1 => ?_) (fun c1_1 => ?_)
    · skip
      refine pw_aload_n 0 rfl dX9_attempted_37 rfl ?_
      refine pw_aload_n 0 rfl dX9_attempted_38 rfl ?_
      refine pw_gI 14 14 rfl dX9_attempted_39 cOk9 (by assumption) (by decide) kw_361 (by decide) (fun r39 => ?_)
      rw [hat.2.1] at r39 ⊢
      refine pw_callV (d' := d - 1) (As := [_]) (ci := 9) dX9_attempted_42 ok_X9_answered kw_423 rfl rfl (Of.o (by assumption)) (by omega) rfl (Nat.le_of_ble_eq_true rfl) (p_answered (d - 1) (by omega) n ok _ hP9 _) (Nat.le_refl _) (Or.inl rfl) (fun r ok1 mem1 hq => ?_)
      obtain ⟨rfl, rfl, rfl⟩ := hq
      refine pw_iret dX9_attempted_45 rfl rfl ?_
      have e9 : rAttd mem w = rSay mem (mem 88 29) := by
        unfold rAttd; (repeat' split) <;> first | rfl | (exfalso; omega) | contradiction
      rw [e9]; exact ⟨rfl, rfl, RE1 _ _, RG_st hG hIO hKO _⟩
    · skip
      refine pw_tab1 (2) 46 dX9_attempted_1 (by omega) (by omega) (by omega) rfl rfl (fun c1 => ?_) (fun c1_2 => ?_)
      · skip
        refine pw_aload_n 0 rfl dX9_attempted_46 rfl ?_
        refine pw_aload_n 0 rfl dX9_attempted_47 rfl ?_
        refine pw_gI 15 15 rfl dX9_attempted_48 cOk9 (by assumption) (by decide) kw_362 (by decide) (fun r48 => ?_)
        rw [hat.2.2.1] at r48 ⊢
        refine pw_callV (d' := d - 1) (As := [_]) (ci := 9) dX9_attempted_51 ok_X9_answered kw_423 rfl rfl (Of.o (by assumption)) (by omega) rfl (Nat.le_of_ble_eq_true rfl) (p_answered (d - 1) (by omega) n ok _ hP9 _) (Nat.le_refl _) (Or.inl rfl) (fun r ok1 mem1 hq => ?_)
        obtain ⟨rfl, rfl, rfl⟩ := hq
        refine pw_iret dX9_attempted_54 rfl rfl ?_
        have e9 : rAttd mem w = rSay mem (mem 88 30) := by
          unfold rAttd; (repeat' split) <;> first | rfl | (exfalso; omega) | contradiction
        rw [e9]; exact ⟨rfl, rfl, RE1 _ _, RG_st hG hIO hKO _⟩
      · skip
        refine pw_tableOut 55 dX9_attempted_1 (by omega) (by omega) rfl ?_
        refine pw_aload_n 0 rfl dX9_attempted_55 rfl ?_
        refine pw_bipush dX9_attempted_56 (by decide) ?_
        refine pw_callV (d' := d - 1) (As := [_]) (ci := 9) dX9_attempted_58 ok_X9_refused kw_406 rfl rfl (Of.o (by assumption)) (by omega) rfl (Nat.le_of_ble_eq_true rfl) (p_refused (d - 1) (by omega) n ok _ hP9 _ (by omega)) (Nat.le_refl _) (Or.inl rfl) (fun r ok1 mem1 hq => ?_)
        obtain ⟨rfl, rfl, rfl⟩ := hq
        refine pw_iret dX9_attempted_61 rfl rfl ?_
        have e9 : rAttd mem w = rRef mem (-2) := by
          unfold rAttd; (repeat' split) <;> first | rfl | (exfalso; omega) | contradiction
        rw [e9]; exact ⟨rfl, rfl, RE1 _ _, RG_st hG hIO hKO _⟩
set_option maxHeartbeats 4000000 in
set_option maxRecDepth 100000 in
theorem p_shown (d : Nat) (hd : 1 ≤ d) (n : Nat) (ok : pO) (mem : pM) (hU : ClUp n ok) (hG : RG mem mem n) (hRI : RI mem) (w : Int) (hw : -2147483648 ≤ w ∧ w ≤ 2147483647)  : PM mi_X9_shown d [vr 1, vi w] n ok mem n (fun r ok' mem' => r = some (vi (rShown mem w).1) ∧ ok = ok' ∧ RE mem mem' ∧ RG (rShown mem w).2 mem' n) := by
  obtain ⟨hP9, hN, ⟨hn4, ho0, ho1, ho2⟩, hCh, hDr, hM, ⟨hW80, hW82, hW84⟩, q86, q87, hSU, hn133⟩ := id hU
  obtain ⟨hN5, hN3⟩ := id hN
  obtain ⟨hM4, hM9⟩ := id hM
  obtain ⟨hW8, hWA, -, -⟩ := id hW80
  have hIO := hRI.1
  have hKO := hRI.2.1
  have ht9 := hRI.2.2.1
  have hq0 := hRI.2.2.2.1
  have hty := hRI.2.2.2.2.1
  have hNR := hG.1
  have hNR1 : mem 2 1 = mem 88 19 := hNR.1
  have hmk := hG.2.2.2.2.2.1
  refine PM.of (by decide) (by decide) (Nat.le_refl _) (Nat.le_of_ble_eq_true rfl) ?_
  refine pw_iload_n 1 rfl dX9_shown_0 rfl ?_
  refine pw_tab1 (0) 28 dX9_shown_1 (by omega) (by omega) (by omega) rfl rfl (fun c1 => ?_) (fun c1_0 => ?_)
  · skip
    refine pw_aload_n 0 rfl dX9_shown_28 rfl ?_
    refine pw_aload_n 0 rfl dX9_shown_29 rfl ?_
    refine pw_gR 4 78 dX9_shown_30 cOk9 (by assumption) (by decide) kw_351 (by decide) rfl ?_
    refine pw_gI 1 1 rfl dX9_shown_33 cOk4 (by assumption) (by decide) kw_317 (by decide) (fun r33 => ?_)
    rw [hmk.2.1] at r33 ⊢
    refine pw_callV (d' := d - 1) (As := [_]) (ci := 9) dX9_shown_36 ok_X9_answered kw_423 rfl rfl (Of.o (by assumption)) (by omega) rfl (Nat.le_of_ble_eq_true rfl) (p_answered (d - 1) (by omega) n ok _ hP9 _) (Nat.le_refl _) (Or.inl rfl) (fun r ok1 mem1 hq => ?_)
    obtain ⟨rfl, rfl, rfl⟩ := hq
    refine pw_iret dX9_shown_39 rfl rfl ?_
    have e9 : rShown mem w = rSay mem (mem 88 50) := by
      unfold rShown; (repeat' split) <;> first | rfl | (exfalso; omega) | contradiction
    rw [e9]; exact ⟨rfl, rfl, RE1 _ _, RG_st hG hIO hKO _⟩
  · skip
    refine pw_tab1 (1) 40 dX9_shown_1 (by omega) (by omega) (by omega) rfl rfl (fun c1 => ?_) (fun c1_1 => ?_)
    · skip
      refine pw_aload_n 0 rfl dX9_shown_40 rfl ?_
      refine pw_aload_n 0 rfl dX9_shown_41 rfl ?_
      refine pw_gR 4 78 dX9_shown_42 cOk9 (by assumption) (by decide) kw_351 (by decide) rfl ?_
      refine pw_gI 2 2 rfl dX9_shown_45 cOk4 (by assumption) (by decide) kw_319 (by decide) (fun r45 => ?_)
      rw [hmk.2.2.1] at r45 ⊢
      refine pw_callV (d' := d - 1) (As := [_]) (ci := 9) dX9_shown_48 ok_X9_answered kw_423 rfl rfl (Of.o (by assumption)) (by omega) rfl (Nat.le_of_ble_eq_true rfl) (p_answered (d - 1) (by omega) n ok _ hP9 _) (Nat.le_refl _) (Or.inl rfl) (fun r ok1 mem1 hq => ?_)
      obtain ⟨rfl, rfl, rfl⟩ := hq
      refine pw_iret dX9_shown_51 rfl rfl ?_
      have e9 : rShown mem w = rSay mem (mem 88 51) := by
        unfold rShown; (repeat' split) <;> first | rfl | (exfalso; omega) | contradiction
      rw [e9]; exact ⟨rfl, rfl, RE1 _ _, RG_st hG hIO hKO _⟩
    · skip
      refine pw_tab1 (2) 52 dX9_shown_1 (by omega) (by omega) (by omega) rfl rfl (fun c1 => ?_) (fun c1_2 => ?_)
      · skip
        refine pw_aload_n 0 rfl dX9_shown_52 rfl ?_
        refine pw_aload_n 0 rfl dX9_shown_53 rfl ?_
        refine pw_gR 4 78 dX9_shown_54 cOk9 (by assumption) (by decide) kw_351 (by decide) rfl ?_
        refine pw_gI 3 3 rfl dX9_shown_57 cOk4 (by assumption) (by decide) kw_321 (by decide) (fun r57 => ?_)
        rw [hmk.2.2.2] at r57 ⊢
        refine pw_callV (d' := d - 1) (As := [_]) (ci := 9) dX9_shown_60 ok_X9_answered kw_423 rfl rfl (Of.o (by assumption)) (by omega) rfl (Nat.le_of_ble_eq_true rfl) (p_answered (d - 1) (by omega) n ok _ hP9 _) (Nat.le_refl _) (Or.inl rfl) (fun r ok1 mem1 hq => ?_)
        obtain ⟨rfl, rfl, rfl⟩ := hq
        refine pw_iret dX9_shown_63 rfl rfl ?_
        have e9 : rShown mem w = rSay mem (mem 88 52) := by
          unfold rShown; (repeat' split) <;> first | rfl | (exfalso; omega) | contradiction
        rw [e9]; exact ⟨rfl, rfl, RE1 _ _, RG_st hG hIO hKO _⟩
      · skip
        refine pw_tableOut 64 dX9_shown_1 (by omega) (by omega) rfl ?_
        refine pw_aload_n 0 rfl dX9_shown_64 rfl ?_
        refine pw_bipush dX9_shown_65 (by decide) ?_
        refine pw_callV (d' := d - 1) (As := [_]) (ci := 9) dX9_shown_67 ok_X9_refused kw_406 rfl rfl (Of.o (by assumption)) (by omega) rfl (Nat.le_of_ble_eq_true rfl) (p_refused (d - 1) (by omega) n ok _ hP9 _ (by omega)) (Nat.le_refl _) (Or.inl rfl) (fun r ok1 mem1 hq => ?_)
        obtain ⟨rfl, rfl, rfl⟩ := hq
        refine pw_iret dX9_shown_70 rfl rfl ?_
        have e9 : rShown mem w = rRef mem (-2) := by
          unfold rShown; (repeat' split) <;> first | rfl | (exfalso; omega) | contradiction
        rw [e9]; exact ⟨rfl, rfl, RE1 _ _, RG_st hG hIO hKO _⟩
set_option maxHeartbeats 4000000 in
set_option maxRecDepth 100000 in
theorem p_marked (d : Nat) (hd : 1 ≤ d) (n : Nat) (ok : pO) (mem : pM) (hU : ClUp n ok) (hG : RG mem mem n) (hRI : RI mem) (x : Int) (hx : -2147483648 ≤ x ∧ x ≤ 2147483647)  : PM mi_X9_marked d [vr 1, vi x] n ok mem n (fun r ok' mem' => r = some (vi (rMarked mem x).1) ∧ ok = ok' ∧ RE mem mem' ∧ RG (rMarked mem x).2 mem' n) := by
  obtain ⟨hP9, hN, ⟨hn4, ho0, ho1, ho2⟩, hCh, hDr, hM, ⟨hW80, hW82, hW84⟩, q86, q87, hSU, hn133⟩ := id hU
  obtain ⟨hN5, hN3⟩ := id hN
  obtain ⟨hM4, hM9⟩ := id hM
  obtain ⟨hW8, hWA, -, -⟩ := id hW80
  have hIO := hRI.1
  have hKO := hRI.2.1
  have ht9 := hRI.2.2.1
  have hq0 := hRI.2.2.2.1
  have hty := hRI.2.2.2.2.1
  have hNR := hG.1
  have hNR1 : mem 2 1 = mem 88 19 := hNR.1
  have hmk := hG.2.2.2.2.2.1
  refine PM.of (by decide) (by decide) (Nat.le_refl _) (Nat.le_of_ble_eq_true rfl) ?_
  refine pw_iload_n 1 rfl dX9_marked_0 rfl ?_
  refine pw_if_lt 11 (by decide) dX9_marked_1 (by omega) (fun c1 => ?_) (fun c1 => ?_)
  · skip
    refine pw_aload_n 0 rfl dX9_marked_11 rfl ?_
    refine pw_iconst dX9_marked_12 ?_
    refine pw_callV (d' := d - 1) (As := [_]) (ci := 9) dX9_marked_13 ok_X9_answered kw_423 rfl rfl (Of.o (by assumption)) (by omega) rfl (Nat.le_of_ble_eq_true rfl) (p_answered (d - 1) (by omega) n ok _ hP9 _) (Nat.le_refl _) (Or.inl rfl) (fun r ok1 mem1 hq => ?_)
    obtain ⟨rfl, rfl, rfl⟩ := hq
    refine pw_iret dX9_marked_16 rfl rfl ?_
    have e9 : rMarked mem x = rSay mem (-1) := by
      unfold rMarked; first | rfl | rw [if_pos (by omega)]
    rw [e9]; exact ⟨rfl, rfl, RE1 _ _, RG_st hG hIO hKO _⟩
  · skip
    refine pw_iload_n 1 rfl dX9_marked_4 rfl ?_
    refine pw_sipush dX9_marked_5 (by decide) ?_
    refine pw_icmp_lt 17 (by decide) dX9_marked_8 (by omega) (by omega) (fun c8 => ?_) (fun c8 => ?_)
    · skip
      refine pw_aload_n 0 rfl dX9_marked_17 rfl ?_
      refine pw_aload_n 0 rfl dX9_marked_18 rfl ?_
      refine pw_gR 4 78 dX9_marked_19 cOk9 (by assumption) (by decide) kw_351 (by decide) rfl ?_
      refine pw_gR 0 79 dX9_marked_22 cOk4 (by assumption) (by decide) kw_315 (by decide) rfl ?_
      refine pw_iload_n 1 rfl dX9_marked_25 rfl ?_
      refine pw_baload dX9_marked_26 (by assumption) (by omega) (by omega) (fun r26 => ?_)
      rw [hmk.1 x (by omega) (by omega)] at r26 ⊢
      refine pw_if_eq 34 (by decide) dX9_marked_27 (by omega) (fun c27 => ?_) (fun c27 => ?_)
      · skip
        refine pw_iconst dX9_marked_34 ?_
        refine pw_callV (d' := d - 1) (As := [_]) (ci := 9) dX9_marked_35 ok_X9_answered kw_423 rfl rfl (Of.o (by assumption)) (by omega) rfl (Nat.le_of_ble_eq_true rfl) (p_answered (d - 1) (by omega) n ok _ hP9 _) (Nat.le_refl _) (Or.inl rfl) (fun r ok1 mem1 hq => ?_)
        obtain ⟨rfl, rfl, rfl⟩ := hq
        refine pw_iret dX9_marked_38 rfl rfl ?_
        have e9 : rMarked mem x = rSay mem (0) := by
          unfold rMarked; rw [if_neg (by omega), if_pos c27]
        rw [e9]; exact ⟨rfl, rfl, RE1 _ _, RG_st hG hIO hKO _⟩
      · skip
        refine pw_iconst dX9_marked_30 ?_
        refine pw_goto 35 (by decide) dX9_marked_31 ?_
        refine pw_callV (d' := d - 1) (As := [_]) (ci := 9) dX9_marked_35 ok_X9_answered kw_423 rfl rfl (Of.o (by assumption)) (by omega) rfl (Nat.le_of_ble_eq_true rfl) (p_answered (d - 1) (by omega) n ok _ hP9 _) (Nat.le_refl _) (Or.inl rfl) (fun r ok1 mem1 hq => ?_)
        obtain ⟨rfl, rfl, rfl⟩ := hq
        refine pw_iret dX9_marked_38 rfl rfl ?_
        have e9 : rMarked mem x = rSay mem (1) := by
          unfold rMarked; rw [if_neg (by omega), if_neg c27]
        rw [e9]; exact ⟨rfl, rfl, RE1 _ _, RG_st hG hIO hKO _⟩
    · skip
      refine pw_aload_n 0 rfl dX9_marked_11 rfl ?_
      refine pw_iconst dX9_marked_12 ?_
      refine pw_callV (d' := d - 1) (As := [_]) (ci := 9) dX9_marked_13 ok_X9_answered kw_423 rfl rfl (Of.o (by assumption)) (by omega) rfl (Nat.le_of_ble_eq_true rfl) (p_answered (d - 1) (by omega) n ok _ hP9 _) (Nat.le_refl _) (Or.inl rfl) (fun r ok1 mem1 hq => ?_)
      obtain ⟨rfl, rfl, rfl⟩ := hq
      refine pw_iret dX9_marked_16 rfl rfl ?_
      have e9 : rMarked mem x = rSay mem (-1) := by
        unfold rMarked; first | rfl | rw [if_pos (by omega)]
      rw [e9]; exact ⟨rfl, rfl, RE1 _ _, RG_st hG hIO hKO _⟩
set_option maxHeartbeats 4000000 in
set_option maxRecDepth 100000 in
theorem p_trace (d : Nat) (hd : 1 ≤ d) (n : Nat) (ok : pO) (mem : pM) (hU : ClUp n ok) (hG : RG mem mem n) (hRI : RI mem) (i : Int) (hi : -2147483648 ≤ i ∧ i ≤ 2147483647)  : PM mi_X9_trace d [vr 1, vi i] n ok mem n (fun r ok' mem' => r = some (vi (rTrace mem i)) ∧ ok = ok' ∧ mem = mem') := by
  obtain ⟨hP9, hN, ⟨hn4, ho0, ho1, ho2⟩, hCh, hDr, hM, ⟨hW80, hW82, hW84⟩, q86, q87, hSU, hn133⟩ := id hU
  obtain ⟨hN5, hN3⟩ := id hN
  obtain ⟨hM4, hM9⟩ := id hM
  obtain ⟨hW8, hWA, -, -⟩ := id hW80
  have hIO := hRI.1
  have hKO := hRI.2.1
  have ht9 := hRI.2.2.1
  have hq0 := hRI.2.2.2.1
  have hty := hRI.2.2.2.2.1
  have hNR := hG.1
  have hNR1 : mem 2 1 = mem 88 19 := hNR.1
  refine PM.of (by decide) (by decide) (Nat.le_refl _) (Nat.le_of_ble_eq_true rfl) ?_
  refine pw_aload_n 0 rfl dX9_trace_0 rfl ?_
  refine pw_gR 0 2 dX9_trace_1 cOk9 (by assumption) (by decide) kw_347 (by decide) rfl ?_
  refine pw_iload_n 1 rfl dX9_trace_4 rfl ?_
  refine pw_callV (d' := d - 1) (As := [_]) (ci := 5) dX9_trace_5 ok_X5_tracedAt kw_1035 rfl rfl (Of.o (by assumption)) (by omega) rfl (Nat.le_of_ble_eq_true rfl) (n_tracedAt (d - 1) (by omega) n ok mem hN i (by omega)) (Nat.le_refl _) (Or.inl rfl) (fun r ok1 mem1 hq => ?_)
  obtain ⟨rfl, rfl, rfl⟩ := hq
  refine pw_iret dX9_trace_8 rfl rfl ?_
  refine ⟨congrArg (fun z => some (vi z)) ?_, rfl, rfl⟩
  unfold rTrace; rw [hNR1]
  by_cases q : 0 ≤ i ∧ i < mem 88 19 ∧ i < 60
  · rw [if_pos q, if_pos q]; exact hNR.2.2.2 i q.1 q.2.2 q.2.1
  · rw [if_neg q, if_neg q]
set_option maxHeartbeats 4000000 in
set_option maxRecDepth 100000 in
theorem p_status (d : Nat) (hd : 0 ≤ d) (n : Nat) (ok : pO) (mem : pM) (hU : ClUp n ok) (hG : RG mem mem n) (hRI : RI mem) : PM mi_X9_status d [vr 1] n ok mem n (fun r ok' mem' => r = some (vi (mem 88 0)) ∧ ok = ok' ∧ mem = mem') := by
  obtain ⟨hP9, hN, ⟨hn4, ho0, ho1, ho2⟩, hCh, hDr, hM, ⟨hW80, hW82, hW84⟩, q86, q87, hSU, hn133⟩ := id hU
  obtain ⟨hN5, hN3⟩ := id hN
  obtain ⟨hM4, hM9⟩ := id hM
  obtain ⟨hW8, hWA, -, -⟩ := id hW80
  have hIO := hRI.1
  have hKO := hRI.2.1
  have ht9 := hRI.2.2.1
  have hq0 := hRI.2.2.2.1
  have hty := hRI.2.2.2.2.1
  have hNR := hG.1
  have hNR1 : mem 2 1 = mem 88 19 := hNR.1
  have hat := hG.2.2.2.2.1
  refine PM.of (by decide) (by decide) (Nat.le_refl _) (Nat.le_of_ble_eq_true rfl) ?_
  refine pw_aload_n 0 rfl dX9_status_0 rfl ?_
  refine pw_gI 16 16 rfl dX9_status_1 cOk9 (by assumption) (by decide) kw_363 (by decide) (fun r1 => ?_)
  rw [hat.2.2.2] at r1 ⊢
  refine pw_iret dX9_status_4 rfl rfl ?_
  exact ⟨rfl, rfl, rfl⟩
set_option maxHeartbeats 4000000 in
set_option maxRecDepth 100000 in
theorem p_out (d : Nat) (hd : 0 ≤ d) (n : Nat) (ok : pO) (mem : pM) (hU : ClUp n ok) (hG : RG mem mem n) (hRI : RI mem) (i : Int) (hi : -2147483648 ≤ i ∧ i ≤ 2147483647)  : PM mi_X9_out d [vr 1, vi i] n ok mem n (fun r ok' mem' => r = some (vi (rOut mem i)) ∧ ok = ok' ∧ mem = mem') := by
  obtain ⟨hP9, hN, ⟨hn4, ho0, ho1, ho2⟩, hCh, hDr, hM, ⟨hW80, hW82, hW84⟩, q86, q87, hSU, hn133⟩ := id hU
  obtain ⟨hN5, hN3⟩ := id hN
  obtain ⟨hM4, hM9⟩ := id hM
  obtain ⟨hW8, hWA, -, -⟩ := id hW80
  have hIO := hRI.1
  have hKO := hRI.2.1
  have ht9 := hRI.2.2.1
  have hq0 := hRI.2.2.2.1
  have hty := hRI.2.2.2.2.1
  have hNR := hG.1
  have hNR1 : mem 2 1 = mem 88 19 := hNR.1
  obtain ⟨l, hl1, hl2, hl3, hl4⟩ := hG.2.2.2.2.2.2.1
  have hel : l.length ≤ 432 ∧ mem 80 1 = mem 88 56 := ⟨hl4, by rw [hl3]; exact hl1.2⟩
  have hev : ∀ i, 0 ≤ i → i < mem 88 56 → mem 81 i = mem 122 i := fun i i1 i2 => by
    have a := hl1.1 i.toNat (by omega)
    have e := hl2 i.toNat (by omega)
    rw [Int.toNat_of_nonneg i1] at a e
    rw [a, e]
  refine PM.of (by decide) (by decide) (Nat.le_refl _) (Nat.le_of_ble_eq_true rfl) ?_
  refine pw_iload_n 1 rfl dX9_out_0 rfl ?_
  refine pw_if_lt 27 (by decide) dX9_out_1 (by omega) (fun c1 => ?_) (fun c1 => ?_)
  · skip
    refine pw_iconst dX9_out_27 ?_
    refine pw_iret dX9_out_28 rfl rfl ?_
    refine ⟨congrArg (fun z => some (vi z)) ?_, rfl, rfl⟩
    unfold rOut; first | (rw [if_pos (by omega)]) | (rw [if_neg (by omega)])
  · skip
    refine pw_iload_n 1 rfl dX9_out_4 rfl ?_
    refine pw_aload_n 0 rfl dX9_out_5 rfl ?_
    refine pw_gR 5 80 dX9_out_6 cOk9 (by assumption) (by decide) kw_352 (by decide) rfl ?_
    refine pw_gI 1 1 rfl dX9_out_9 cOk8 (by assumption) (by decide) kw_341 (by decide) (fun r9 => ?_)
    rw [hel.2] at r9 ⊢
    refine pw_icmp_ge 27 (by decide) dX9_out_12 (by omega) (by omega) (fun c12 => ?_) (fun c12 => ?_)
    · skip
      refine pw_iconst dX9_out_27 ?_
      refine pw_iret dX9_out_28 rfl rfl ?_
      refine ⟨congrArg (fun z => some (vi z)) ?_, rfl, rfl⟩
      unfold rOut; first | (rw [if_pos (by omega)]) | (rw [if_neg (by omega)])
    · skip
      refine pw_aload_n 0 rfl dX9_out_15 rfl ?_
      refine pw_gR 5 80 dX9_out_16 cOk9 (by assumption) (by decide) kw_352 (by decide) rfl ?_
      refine pw_gR 0 81 dX9_out_19 cOk8 (by assumption) (by decide) kw_339 (by decide) rfl ?_
      refine pw_iload_n 1 rfl dX9_out_22 rfl ?_
      refine pw_iaload dX9_out_23 (by assumption) (by omega) (by omega) (fun r23 => ?_)
      rw [hev i (by omega) (by omega)] at r23 ⊢
      refine pw_goto 28 (by decide) dX9_out_24 ?_
      refine pw_iret dX9_out_28 rfl rfl ?_
      refine ⟨congrArg (fun z => some (vi z)) ?_, rfl, rfl⟩
      unfold rOut; first | (rw [if_pos (by omega)]) | (rw [if_neg (by omega)])
set_option maxHeartbeats 4000000 in
set_option maxRecDepth 100000 in
theorem p_countOfChest (d : Nat) (hd : 0 ≤ d) (n : Nat) (ok : pO) (mem : pM) (b : Nat) (hC : ChUp n ok b) (w : Int) (hw : 0 ≤ w ∧ w ≤ 2) : PM mi_X9_countOfChest d [vr b, vi w] n ok mem n (fun r ok' mem' => r = some (vi (if w = 0 then mem b 12 else if w = 1 then mem (b + 8) 7 else mem (b + 16) 2)) ∧ ok = ok' ∧ mem = mem') := by
  obtain ⟨hC0, ⟨hC1, hC2, hC3, hC4, hC5, hC6, hC7⟩, hC8, ⟨hC9, hC10, hC11, hC12, hC13, hC14, hC15⟩, hC16, hC17, hb5, hb59⟩ := id hC
  refine PM.of (by decide) (by decide) (Nat.le_refl _) (Nat.le_of_ble_eq_true rfl) ?_
  refine pw_iload_n 1 rfl dX9_countOfChest_0 rfl ?_
  refine pw_lk1 (0) 28 dX9_countOfChest_1 (by omega) (by decide) rfl rfl (fun c1 => ?_) (fun c1_0 => ?_)
  · skip
    refine pw_aload_n 0 rfl dX9_countOfChest_28 rfl ?_
    refine pw_gI 12 12 rfl dX9_countOfChest_29 cOk0 (by assumption) (by decide) kw_255 (by decide) (fun r29 => ?_)
    refine pw_iret dX9_countOfChest_32 rfl rfl ?_
    refine ⟨congrArg (fun z => some (vi z)) ?_, rfl, rfl⟩
    (repeat' split) <;> first | rfl | omega
  · skip
    refine pw_lk1 (1) 33 dX9_countOfChest_1 (by omega) (by decide) rfl rfl (fun c1 => ?_) (fun c1_1 => ?_)
    · skip
      refine pw_aload_n 0 rfl dX9_countOfChest_33 rfl ?_
      refine pw_gR 8 (b + 8) dX9_countOfChest_34 cOk0 (by assumption) (by decide) kw_248 (by decide) rfl ?_
      refine pw_gI 7 7 rfl dX9_countOfChest_37 cOk1 (by assumption) (by decide) kw_153 (by decide) (fun r37 => ?_)
      refine pw_iret dX9_countOfChest_40 rfl rfl ?_
      refine ⟨congrArg (fun z => some (vi z)) ?_, rfl, rfl⟩
      (repeat' split) <;> first | rfl | omega
    · skip
      refine pw_lookup 41 dX9_countOfChest_1 (by decide) (by omega) (show _ = (40 : Int) by (obtain rfl : w = 2 := (by omega)); rfl) rfl ?_
      refine pw_aload_n 0 rfl dX9_countOfChest_41 rfl ?_
      refine pw_gR 9 (b + 16) dX9_countOfChest_42 cOk0 (by assumption) (by decide) kw_250 (by decide) rfl ?_
      refine pw_gI 2 2 rfl dX9_countOfChest_45 cOk3 (by assumption) (by decide) kw_181 (by decide) (fun r45 => ?_)
      refine pw_iret dX9_countOfChest_48 rfl rfl ?_
      refine ⟨congrArg (fun z => some (vi z)) ?_, rfl, rfl⟩
      (repeat' split) <;> first | rfl | omega
set_option maxHeartbeats 4000000 in
set_option maxRecDepth 100000 in
theorem p_count (d : Nat) (hd : 1 ≤ d) (n : Nat) (ok : pO) (mem : pM) (hU : ClUp n ok) (hG : RG mem mem n) (hRI : RI mem) (w : Int) (hw : -2147483648 ≤ w ∧ w ≤ 2147483647)  : PM mi_X9_count d [vr 1, vi w] n ok mem n (fun r ok' mem' => r = some (vi (rCount mem w)) ∧ ok = ok' ∧ mem = mem') := by
  obtain ⟨hP9, hN, ⟨hn4, ho0, ho1, ho2⟩, hCh, hDr, hM, ⟨hW80, hW82, hW84⟩, q86, q87, hSU, hn133⟩ := id hU
  obtain ⟨hN5, hN3⟩ := id hN
  obtain ⟨hM4, hM9⟩ := id hM
  obtain ⟨hW8, hWA, -, -⟩ := id hW80
  have hIO := hRI.1
  have hKO := hRI.2.1
  have ht9 := hRI.2.2.1
  have hq0 := hRI.2.2.2.1
  have hty := hRI.2.2.2.2.1
  have hNR := hG.1
  have hNR1 : mem 2 1 = mem 88 19 := hNR.1
  refine PM.of (by decide) (by decide) (Nat.le_refl _) (Nat.le_of_ble_eq_true rfl) ?_
  refine pw_iload_n 1 rfl dX9_count_0 rfl ?_
  refine pw_if_lt 10 (by decide) dX9_count_1 (by omega) (fun c1 => ?_) (fun c1 => ?_)
  · skip
    refine pw_bipush dX9_count_10 (by decide) ?_
    refine pw_iret dX9_count_12 rfl rfl ?_
    refine ⟨congrArg (fun z => some (vi z)) ?_, rfl, rfl⟩
    unfold rCount; (repeat' split) <;> omega
  · skip
    refine pw_iload_n 1 rfl dX9_count_4 rfl ?_
    refine pw_bipush dX9_count_5 (by decide) ?_
    refine pw_icmp_le 13 (by decide) dX9_count_7 (by omega) (by omega) (fun c7 => ?_) (fun c7 => ?_)
    · skip
      refine pw_iload_n 1 rfl dX9_count_13 rfl ?_
      refine pw_bipush dX9_count_14 (by decide) ?_
      refine pw_icmp_ge 34 (by decide) dX9_count_16 (by omega) (by omega) (fun c16 => ?_) (fun c16 => ?_)
      · skip
        refine pw_iload_n 1 rfl dX9_count_34 rfl ?_
        refine pw_tab1 (9) 64 dX9_count_35 (by omega) (by omega) (by omega) rfl rfl (fun c35 => ?_) (fun c35_9 => ?_)
        · skip
          refine pw_aload_n 0 rfl dX9_count_64 rfl ?_
          refine pw_gI 11 11 rfl dX9_count_65 cOk9 (by assumption) (by decide) kw_358 (by decide) (fun r65 => ?_)
          rw [hG.2.2.2.1.1] at r65 ⊢
          refine pw_iret dX9_count_68 rfl rfl ?_
          refine ⟨congrArg (fun z => some (vi z)) ?_, rfl, rfl⟩
          unfold rCount; (repeat' split) <;> first | rfl | (exfalso; omega)
        · skip
          refine pw_tab1 (10) 69 dX9_count_35 (by omega) (by omega) (by omega) rfl rfl (fun c35 => ?_) (fun c35_10 => ?_)
          · skip
            refine pw_aload_n 0 rfl dX9_count_69 rfl ?_
            refine pw_gR 0 2 dX9_count_70 cOk9 (by assumption) (by decide) kw_347 (by decide) rfl ?_
            refine pw_gI 1 1 rfl dX9_count_73 cOk5 (by assumption) (by decide) kw_104 (by decide) (fun r73 => ?_)
            rw [hNR1] at r73 ⊢
            refine pw_iret dX9_count_76 rfl rfl ?_
            refine ⟨congrArg (fun z => some (vi z)) ?_, rfl, rfl⟩
            unfold rCount; (repeat' split) <;> first | rfl | (exfalso; omega)
          · skip
            refine pw_tab1 (11) 77 dX9_count_35 (by omega) (by omega) (by omega) rfl rfl (fun c35 => ?_) (fun c35_11 => ?_)
            · skip
              refine pw_aload_n 0 rfl dX9_count_77 rfl ?_
              refine pw_gR 0 2 dX9_count_78 cOk9 (by assumption) (by decide) kw_347 (by decide) rfl ?_
              refine pw_gI 2 2 rfl dX9_count_81 cOk5 (by assumption) (by decide) kw_106 (by decide) (fun r81 => ?_)
              rw [hNR.2.1] at r81 ⊢
              refine pw_iret dX9_count_84 rfl rfl ?_
              refine ⟨congrArg (fun z => some (vi z)) ?_, rfl, rfl⟩
              unfold rCount; (repeat' split) <;> first | rfl | (exfalso; omega)
            · skip
              refine pw_tab1 (12) 85 dX9_count_35 (by omega) (by omega) (by omega) rfl rfl (fun c35 => ?_) (fun c35_12 => ?_)
              · skip
                refine pw_aload_n 0 rfl dX9_count_85 rfl ?_
                refine pw_gR 0 2 dX9_count_86 cOk9 (by assumption) (by decide) kw_347 (by decide) rfl ?_
                refine pw_gI 3 3 rfl dX9_count_89 cOk5 (by assumption) (by decide) kw_108 (by decide) (fun r89 => ?_)
                rw [hNR.2.2.1] at r89 ⊢
                refine pw_iret dX9_count_92 rfl rfl ?_
                refine ⟨congrArg (fun z => some (vi z)) ?_, rfl, rfl⟩
                unfold rCount; (repeat' split) <;> first | rfl | (exfalso; omega)
              · skip
                refine pw_tableOut 93 dX9_count_35 (by omega) (by omega) rfl ?_
                refine pw_aload_n 0 rfl dX9_count_93 rfl ?_
                refine pw_gR 4 78 dX9_count_94 cOk9 (by assumption) (by decide) kw_351 (by decide) rfl ?_
                refine pw_callV (d' := d - 1) (As := []) (ci := 4) dX9_count_97 ok_X4_number kw_1046 rfl rfl (Of.o (by assumption)) (by omega) rfl (Nat.le_of_ble_eq_true rfl) (k_number (d - 1) (by omega) n ok mem hM mem hG.2.2.2.2.2.1.1) (Nat.le_refl _) (Or.inl rfl) (fun r ok1 mem1 hq => ?_)
                obtain ⟨rfl, rfl, rfl⟩ := hq
                refine pw_iret dX9_count_100 rfl rfl ?_
                refine ⟨congrArg (fun z => some (vi z)) ?_, rfl, rfl⟩
                unfold rCount; (repeat' split) <;> first | rfl | (exfalso; omega)
      · skip
        obtain ⟨b, hbc⟩ : ∃ b : Nat, (b : Int) = 5 + 18 * (w % 3) := ⟨(5 + 18 * (w % 3)).toNat, by omega⟩
        have hC : ChUp n ok b := hCh b (by omega)
        have hok : ok 4 ((w % 3)).toNat = true := by rcases (show (w % 3) = 0 ∨ (w % 3) = 1 ∨ (w % 3) = 2 by omega) with e | e | e <;> (rw [e]; assumption)
        obtain ⟨hS, hV, hJ, hKR⟩ := hG.2.1 (w % 3) b (by omega) (by omega) hbc
        have hI := hIO (w % 3) (by omega) (by omega)
        have hOk := hI.ok
        obtain ⟨hR, hD, hSo⟩ := id hS
        obtain ⟨hC0, ⟨hC1, hC2, hC3, hC4, hC5, hC6, hC7⟩, hC8, ⟨hC9, hC10, hC11, hC12, hC13, hC14, hC15⟩, hC16, hC17, hb5, hb59⟩ := id hC
        refine pw_aload_n 0 rfl dX9_count_19 rfl ?_
        refine pw_gR 1 4 dX9_count_20 cOk9 (by assumption) (by decide) kw_348 (by decide) rfl ?_
        refine pw_iload_n 1 rfl dX9_count_23 rfl ?_
        refine pw_iconst dX9_count_24 ?_
        refine pw_irem dX9_count_25 (by omega) (by omega) ?_
        refine pw_aaload (L := 3) dX9_count_26 (by omega) (by omega) rfl rfl (by decide) (by omega) (by omega) b hbc hok ?_
        refine pw_iload_n 1 rfl dX9_count_27 rfl ?_
        refine pw_iconst dX9_count_28 ?_
        refine pw_idiv dX9_count_29 (by omega) (by omega) ?_
        refine pw_callS (d' := d - 1) (As := [_, _]) dX9_count_30 ok_X9_countOfChest kw_1043 (by omega) rfl (Nat.le_of_ble_eq_true rfl) (p_countOfChest (d - 1) (by omega) n ok mem b hC (w / 3) (by omega)) (Nat.le_refl _) (Or.inl rfl) (fun r ok1 mem1 hq => ?_)
        obtain ⟨rfl, rfl, rfl⟩ := hq
        refine pw_iret dX9_count_33 rfl rfl ?_
        refine ⟨congrArg (fun z => some (vi z)) ?_, rfl, rfl⟩
        rw [hD.2.2.1, hR.2.2.1, hKR.1]
        by_cases q : w / 3 = 0
        · rw [if_pos q, show w % 3 = w by omega]
          unfold rCount; (repeat' split) <;> first | rfl | (exfalso; omega)
        · rw [if_neg q]
          by_cases q2 : w / 3 = 1
          · rw [if_pos q2, show w % 3 = w - 3 by omega]
            unfold rCount; (repeat' split) <;> first | rfl | (exfalso; omega)
          · rw [if_neg q2, show w % 3 = w - 6 by omega]
            unfold rCount; (repeat' split) <;> first | rfl | (exfalso; omega)
    · skip
      refine pw_bipush dX9_count_10 (by decide) ?_
      refine pw_iret dX9_count_12 rfl rfl ?_
      refine ⟨congrArg (fun z => some (vi z)) ?_, rfl, rfl⟩
      unfold rCount; (repeat' split) <;> omega
