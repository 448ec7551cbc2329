/-! ===== the class: marks ===== -/
def MUp (n : Nat) (ok : pO) : Prop := Of n ok 4 78 ∧ Az n 79 1024
def MR (A m : pM) : Prop := ∀ j, 0 ≤ j → j < 1024 → m 79 j = A 119 j
def lkM (m : pM) (a e f : Int) : pM := wr (wr (wr m 78 1 a) 78 2 e) 78 3 f
theorem lkM_a (m : pM) (a e f : Int) (x : Nat) (h : x ≠ 78) : lkM m a e f x = m x := by unfold lkM; rw [wr_a _ _ _ h, wr_a _ _ _ h, wr_a _ _ _ h]
theorem lkM_v (m : pM) (a e f : Int) : lkM m a e f 78 1 = a ∧ lkM m a e f 78 2 = e ∧ lkM m a e f 78 3 = f := by
  unfold lkM
  refine ⟨?_, ?_, wr_s _ _ _ _⟩
  · rw [wr_k _ _ _ _ (by omega), wr_k _ _ _ _ (by omega), wr_s]
  · rw [wr_k _ _ _ _ (by omega), wr_s]
set_option maxHeartbeats 4000000 in
set_option maxRecDepth 100000 in
theorem k_noteLook (d : Nat) (hd : 0 ≤ d) (n : Nat) (ok : pO) (mem : pM) (hM : MUp n ok) (a e f : Int) (ha : -2147483648 ≤ a ∧ a ≤ 2147483647) (he : -2147483648 ≤ e ∧ e ≤ 2147483647) (hf : -2147483648 ≤ f ∧ f ≤ 2147483647) : PM mi_X4_noteLook d [vr 78, vi a, vi e, vi f] n ok mem n (fun r ok' mem' => r = none ∧ ok = ok' ∧ lkM mem a e f = mem') := by
  obtain ⟨hM4, hM9⟩ := id hM
  refine PM.of (by decide) (by decide) (Nat.le_refl _) (Nat.le_of_ble_eq_true rfl) ?_
  refine pw_aload_n 0 rfl dX4_noteLook_0 rfl ?_
  refine pw_iload_n 1 rfl dX4_noteLook_1 rfl ?_
  refine pw_pI 1 1 rfl dX4_noteLook_2 cOk4 (by assumption) (by decide) kw_316 rfl rfl (by decide) (by omega) ?_
  refine pw_aload_n 0 rfl dX4_noteLook_5 rfl ?_
  refine pw_iload_n 2 rfl dX4_noteLook_6 rfl ?_
  refine pw_pI 2 2 rfl dX4_noteLook_7 cOk4 (by assumption) (by decide) kw_318 rfl rfl (by decide) (by omega) ?_
  refine pw_aload_n 0 rfl dX4_noteLook_10 rfl ?_
  refine pw_iload_n 3 rfl dX4_noteLook_11 rfl ?_
  refine pw_pI 3 3 rfl dX4_noteLook_12 cOk4 (by assumption) (by decide) kw_320 rfl rfl (by decide) (by omega) ?_
  refine pw_vret dX4_noteLook_15 rfl rfl ?_
  exact ⟨rfl, rfl, rfl⟩
set_option maxHeartbeats 4000000 in
set_option maxRecDepth 100000 in
theorem k_put (d : Nat) (hd : 0 ≤ d) (n : Nat) (ok : pO) (mem : pM) (hM : MUp n ok) (A : pM) (hMR : MR A mem) (f k v : Int) (hf : 0 ≤ f) (hk : 0 ≤ k) (hfk : f + k ≤ 1024) (hv01 : v = 0 ∨ v = 1) : PM mi_X4_put d [vr 78, vi f, vi k, vi v] n ok mem n (fun r ok' mem' => r = some (vi (mkG A f v k.toNat)) ∧ ok = ok' ∧ FrW 79 mem mem' ∧ MR (fiM A 119 f k v) mem') := by
  obtain ⟨hM4, hM9⟩ := id hM
  refine PM.of (by decide) (by decide) (Nat.le_refl _) (Nat.le_of_ble_eq_true rfl) ?_
  refine pw_iconst dX4_put_0 ?_
  refine pw_istore dX4_put_1 (by decide) ?_
  refine pw_iload_n 1 rfl dX4_put_3 rfl ?_
  refine pw_istore dX4_put_4 (by decide) ?_
  have lp6 : ∀ (kz : Nat) (i : Nat) (x j : Int) (m1 : pM), k - (i : Int) < (kz : Int) → (j = f + i) → ((i : Int) ≤ k) → (x = mkG A f v i) → (FrW 79 mem m1) → (∀ q, 0 ≤ q → q < 1024 → m1 79 q = fiM A 119 f i v 119 q) → PW mi_X4_put d n n (fun r ok' mem' => r = some (vi (mkG A f v k.toNat)) ∧ ok = ok' ∧ FrW 79 mem mem' ∧ MR (fiM A 119 f k v) mem') 6 [(0, vr 78), (1, vi f), (2, vi k), (3, vi v), (4, vi x), (5, vi j)] [] n ok m1 := by
    intro kz
    induction kz with
    | zero =>
      intro i x j m1 hk hj h1 h2 hF hR
      exact absurd hk (by omega)
    | succ kz ih =>
      intro i x j m1 hk hj h1 h2 hF hR
      have hp := mkG_ran A f v i
      refine pw_iload dX4_put_6 rfl ?_
      refine pw_iload_n 1 rfl dX4_put_8 rfl ?_
      refine pw_iload_n 2 rfl dX4_put_9 rfl ?_
      refine pw_iadd dX4_put_10 ?_
      refine pw_icmp_ge 50 (by decide) dX4_put_11 (by omega) (by omega) (fun c11 => ?_) (fun c11 => ?_)
      · skip
        refine pw_iload dX4_put_50 rfl ?_
        refine pw_iret dX4_put_52 rfl rfl ?_
        have e9 : i = k.toNat := by omega
        have e8 : (i : Int) = k := by omega
        rw [e8] at hR
        rw [h2, e9]
        exact ⟨rfl, rfl, hF, hR⟩
      · skip
        refine pw_iload dX4_put_14 rfl ?_
        refine pw_sipush dX4_put_16 (by decide) ?_
        refine pw_icmp_ge 50 (by decide) dX4_put_19 (by omega) (by omega) (fun c19 => ?_) (fun c19 => ?_)
        · skip
          exfalso; omega
        · skip
          refine pw_aload_n 0 rfl dX4_put_22 rfl ?_
          refine pw_gR 0 79 dX4_put_23 cOk4 (by assumption) (by decide) kw_314 (by decide) rfl ?_
          refine pw_iload dX4_put_26 rfl ?_
          refine pw_baload dX4_put_28 (by assumption) (by omega) (by omega) (fun r28 => ?_)
          try simp (disch := omega) only [wr_s, wr_a, wr_k] at r28 ⊢
          have e0 : m1 79 j = A 119 j := by rw [hR j (by omega) (by omega)]; exact fiM_o _ _ _ _ _ _ (by omega)
          refine pw_iload_n 3 rfl dX4_put_29 rfl ?_
          refine pw_icmp_eq 44 (by decide) dX4_put_30 (by omega) (by omega) (fun c30 => ?_) (fun c30 => ?_)
          · skip
            refine pw_iinc dX4_put_44 rfl (by decide) ?_
            refine pw_goto 6 (by decide) dX4_put_47 ?_
            have hR2 : ∀ q, 0 ≤ q → q < 1024 → m1 79 q = fiM A 119 f ((i + 1 : Nat) : Int) v 119 q := fun q q1 q2 => by
              rw [hR q q1 q2]; unfold fiM
              by_cases w : q = j
              · rw [if_neg (by omega), if_pos (by omega), w, ← e0]; exact c30
              · by_cases w2 : f ≤ q ∧ q < f + (i : Int)
                · rw [if_pos ⟨rfl, w2⟩, if_pos (by omega)]
                · rw [if_neg (by omega), if_neg (by omega)]
            exact pw_locs _ rfl (ih (i + 1) x (j + 1) m1 (by omega) (by omega) (by omega) (by subst h2; show _ = mkG A f v i + _; rw [if_pos (by rw [← hj, ← e0]; exact c30), Int.add_zero]) hF hR2)
          · skip
            refine pw_aload_n 0 rfl dX4_put_33 rfl ?_
            refine pw_gR 0 79 dX4_put_34 cOk4 (by assumption) (by decide) kw_314 (by decide) rfl ?_
            refine pw_iload dX4_put_37 rfl ?_
            refine pw_iload_n 3 rfl dX4_put_39 rfl ?_
            refine pw_bastore dX4_put_40 (by assumption) (by omega) (by omega) hv01 ?_
            refine pw_iinc dX4_put_41 rfl (by decide) ?_
            refine pw_iinc dX4_put_44 rfl (by decide) ?_
            refine pw_goto 6 (by decide) dX4_put_47 ?_
            have hR2 : ∀ q, 0 ≤ q → q < 1024 → (wr m1 79 j v) 79 q = fiM A 119 f ((i + 1 : Nat) : Int) v 119 q := fun q q1 q2 => by
              by_cases w : q = j
              · rw [w, wr_s]; unfold fiM; rw [if_pos (by omega)]
              · rw [wr_k _ _ _ _ w, hR q q1 q2]; unfold fiM
                by_cases w2 : f ≤ q ∧ q < f + (i : Int)
                · rw [if_pos ⟨rfl, w2⟩, if_pos (by omega)]
                · rw [if_neg (by omega), if_neg (by omega)]
            exact pw_locs _ rfl (ih (i + 1) (x + 1) (j + 1) _ (by omega) (by omega) (by omega) (by subst h2; show _ = mkG A f v i + _; rw [if_neg (by rw [← hj, ← e0]; exact c30)]) (hF.w _ _) hR2)
  exact pw_locs _ rfl (lp6 (k.toNat + 1) 0 0 f mem (by omega) (by omega) (by omega) rfl (fun _ _ => rfl) (fun q q1 q2 => by rw [show ((0 : Nat) : Int) = 0 from rfl, fiM_0]; exact hMR q q1 q2))
set_option maxHeartbeats 4000000 in
set_option maxRecDepth 100000 in
theorem k_number (d : Nat) (hd : 0 ≤ d) (n : Nat) (ok : pO) (mem : pM) (hM : MUp n ok) (A : pM) (hMR : MR A mem) : PM mi_X4_number d [vr 78] n ok mem n (fun r ok' mem' => r = some (vi (cnM A 1024)) ∧ ok = ok' ∧ mem = mem') := by
  obtain ⟨hM4, hM9⟩ := id hM
  refine PM.of (by decide) (by decide) (Nat.le_refl _) (Nat.le_of_ble_eq_true rfl) ?_
  refine pw_iconst dX4_number_0 ?_
  refine pw_istore_n 1 rfl dX4_number_1 (by decide) ?_
  refine pw_iconst dX4_number_2 ?_
  refine pw_istore_n 2 rfl dX4_number_3 (by decide) ?_
  have lp4 : ∀ (kz : Nat) (i : Nat) (x : Int), 1024 - (i : Int) < (kz : Int) → (i ≤ 1024) → (x = cnM A i) → PW mi_X4_number d n n (fun r ok' mem' => r = some (vi (cnM A 1024)) ∧ ok = ok' ∧ mem = mem') 4 [(0, vr 78), (1, vi x), (2, vi (i : Int))] [] n ok mem := by
    intro kz
    induction kz with
    | zero =>
      intro i x hk h1 h2
      exact absurd hk (by omega)
    | succ kz ih =>
      intro i x hk h1 h2
      have hp := cnM_ran A i
      refine pw_iload_n 2 rfl dX4_number_4 rfl ?_
      refine pw_sipush dX4_number_5 (by decide) ?_
      refine pw_icmp_ge 29 (by decide) dX4_number_8 (by omega) (by omega) (fun c8 => ?_) (fun c8 => ?_)
      · skip
        refine pw_iload_n 1 rfl dX4_number_29 rfl ?_
        refine pw_iret dX4_number_30 rfl rfl ?_
        have e9 : i = 1024 := by omega
        subst e9
        rw [h2]; exact ⟨rfl, rfl, rfl⟩
      · skip
        refine pw_aload_n 0 rfl dX4_number_11 rfl ?_
        refine pw_gR 0 79 dX4_number_12 cOk4 (by assumption) (by decide) kw_314 (by decide) rfl ?_
        refine pw_iload_n 2 rfl dX4_number_15 rfl ?_
        refine pw_baload dX4_number_16 (by assumption) (by omega) (by omega) (fun r16 => ?_)
        try simp (disch := omega) only [wr_s, wr_a, wr_k] at r16 ⊢
        have e0 := hMR i (by omega) (by omega)
        refine pw_if_eq 23 (by decide) dX4_number_17 (by omega) (fun c17 => ?_) (fun c17 => ?_)
        · skip
          refine pw_iinc dX4_number_23 rfl (by decide) ?_
          refine pw_goto 4 (by decide) dX4_number_26 ?_
          exact pw_locs _ rfl (ih (i + 1) x (by omega) (by omega) (by subst h2; show _ = cnM A i + _; rw [if_pos (by rw [← e0]; exact c17), Int.add_zero]))
        · skip
          refine pw_iinc dX4_number_20 rfl (by decide) ?_
          refine pw_iinc dX4_number_23 rfl (by decide) ?_
          refine pw_goto 4 (by decide) dX4_number_26 ?_
          exact pw_locs _ rfl (ih (i + 1) (x + 1) (by omega) (by omega) (by subst h2; show _ = cnM A i + _; rw [if_neg (by rw [← e0]; exact c17)]))
  exact pw_locs _ rfl (lp4 1025 0 0 (by omega) (by omega) rfl)
/-- the first look that fails, of a state; -1 none: (state, move, behind) -/
noncomputable def sgR (A : pM) (c x : Int) : Int × Int × Int := if opN A c x ≠ 0 then (x, -1, -1) else if shM A c x 38 0 ≠ -1 then (x, shM A c x 38 0, mvN A c x (shM A c x 38 0)) else (-1, -1, -1)
theorem shS_g (A : pM) (c : Int) (g : Nat) (k : Int) (hk : 0 ≤ k) : shS A c (g + 1) k = if A 119 k = 0 then shS A c g (k + 1) else if (sgR A c k).1 ≠ -1 then sgR A c k else shS A c g (k + 1) := by
  rw [shS_n]
  by_cases q : A 119 k = 0
  · rw [if_pos q, if_pos q]
  · rw [if_neg q, if_neg q]
    unfold sgR
    by_cases q2 : opN A c k ≠ 0
    · rw [if_pos q2, if_pos q2, if_pos (by show k ≠ -1; omega)]
    · rw [if_neg q2, if_neg q2]
      by_cases q3 : shM A c k 38 0 ≠ -1
      · rw [if_pos q3, if_pos q3, if_pos (by show k ≠ -1; omega)]
      · rw [if_neg q3, if_neg q3, if_neg (by show ¬ (-1 : Int) ≠ -1; omega)]
def Fr3 (b : Nat) (m m1 : pM) : Prop := ∀ a, a ≠ b + 4 → a ≠ b + 7 → a ≠ 78 → m1 a = m a
set_option maxHeartbeats 4000000 in
set_option maxRecDepth 100000 in
theorem k_stays (d : Nat) (hd : 5 ≤ d) (n : Nat) (ok : pO) (mem : pM) (hN : NUp n ok) (b : Nat) (hC : ChUp n ok b) (A : pM) (c : Int) (v : Int → Int) (hI : cIn A c) (hS : CS A c mem b) (hV : CV A c mem b v) (hv : pOkv A c v) (hM : MUp n ok) (hMR : MR A mem) (x : Int) (hx : 0 ≤ x ∧ x < pW A c 16) (ht : 0 ≤ mem 2 1 ∧ mem 2 1 ≤ 600000000) : PM mi_X4_staysAmongMarked d [vr 78, vr b, vi x] n ok mem n (fun r ok' mem' => r = some (vi (if (sgR A c x).1 = -1 then 1 else 0)) ∧ ok = ok' ∧ Fr3 b mem mem' ∧ (∃ v2, CV A c mem' b v2 ∧ pOkv A c v2) ∧ (((sgR A c x).1 = -1 ∧ mem' 78 = mem 78) ∨ ((sgR A c x).1 ≠ -1 ∧ mem' 78 1 = (sgR A c x).1 ∧ mem' 78 2 = (sgR A c x).2.1 ∧ mem' 78 3 = (sgR A c x).2.2))) := by
  obtain ⟨hN5, hN3⟩ := id hN
  obtain ⟨hC0, ⟨hC1, hC2, hC3, hC4, hC5, hC6, hC7⟩, hC8, ⟨hC9, hC10, hC11, hC12, hC13, hC14, hC15⟩, hC16, hC17, hb5, hb59⟩ := id hC
  obtain ⟨hR, hD, hSo⟩ := id hS
  have hOk := hI.ok
  obtain ⟨hM4, hM9⟩ := id hM
  refine PM.of (by decide) (by decide) (Nat.le_refl _) (Nat.le_of_ble_eq_true rfl) ?_
  refine pw_aload_n 1 rfl dX4_staysAmongMarked_0 rfl ?_
  refine pw_iload_n 2 rfl dX4_staysAmongMarked_1 rfl ?_
  refine pw_callV (d' := d - 1) (As := [_]) (ci := 0) dX4_staysAmongMarked_2 ok_X0_standAt kw_981 rfl rfl (Of.o (by assumption)) (by omega) rfl (Nat.le_of_ble_eq_true rfl) (h_standAt (d - 1) (by omega) n ok mem hN b hC A c v hI hS hV hv x (by have := hOk.2.2; omega)) (Nat.le_refl _) (Or.inl rfl) (fun r9 ok1 m1 hq => ?_)
  obtain ⟨rfl, rfl, hF1, hV1⟩ := hq
  have hv1 : pOkv A c (setV A c v x) := setV_ok hOk.1.2.2 v _
  have hnum : numV A c (setV A c v x) 16 = x := numV_setx hOk.1.2.2 v (by omega) (by omega)
  have g1 : ∀ a, a ≠ b + 4 → m1 a = mem a := hF1
  have hS1 : CS A c m1 b := hS.m (fun a _ _ h4 _ => g1 a h4)
  have hpw := hOk.2.2
  refine pw_aload_n 1 rfl dX4_staysAmongMarked_5 rfl ?_
  refine pw_iconst dX4_staysAmongMarked_6 ?_
  refine pw_callV (d' := d - 1) (As := [_]) (ci := 0) dX4_staysAmongMarked_7 ok_X0_opens kw_982 rfl rfl (Of.o (by assumption)) (by omega) rfl (Nat.le_of_ble_eq_true rfl) (h_opens (d - 1) (by omega) n ok m1 hN b hC A c (setV A c v x) hI hS1 hV1 hv1 0 (by omega) (by rw [g1 2 (by omega)]; omega)) (Nat.le_refl _) (Or.inl rfl) (fun r9 ok1 m9 hq => ?_)
  obtain ⟨rfl, rfl, em⟩ := hq
  have em : m1 = m9 := em
  subst em
  rw [← opN_v hOk.1 v x]
  have h01 := opN_01 A c x
  refine pw_if_eq 22 (by decide) dX4_staysAmongMarked_10 (by omega) (fun c10 => ?_) (fun c10 => ?_)
  · skip
    refine pw_iconst dX4_staysAmongMarked_22 ?_
    refine pw_istore_n 3 rfl dX4_staysAmongMarked_23 (by decide) ?_
    have lp24 : ∀ (kz : Nat) (j : Nat) (m2 : pM), 38 - (j : Int) < (kz : Int) → (j ≤ 38) → (shM A c x 38 0 = shM A c x (38 - j) j) → (Fr2 b mem m2) → (CV A c m2 b (setV A c v x)) → PW mi_X4_staysAmongMarked d n n (fun r ok' mem' => r = some (vi (if (sgR A c x).1 = -1 then 1 else 0)) ∧ ok = ok' ∧ Fr3 b mem mem' ∧ (∃ v2, CV A c mem' b v2 ∧ pOkv A c v2) ∧ (((sgR A c x).1 = -1 ∧ mem' 78 = mem 78) ∨ ((sgR A c x).1 ≠ -1 ∧ mem' 78 1 = (sgR A c x).1 ∧ mem' 78 2 = (sgR A c x).2.1 ∧ mem' 78 3 = (sgR A c x).2.2))) 24 [(0, vr 78), (1, vr b), (2, vi x), (3, vi (j : Int))] [] n ok m2 := by
      intro kz
      induction kz with
      | zero =>
        intro j m2 hk hj hG hF2 hV2
        exact absurd hk (by omega)
      | succ kz ih =>
        intro j m2 hk hj hG hF2 hV2
        have g2 : ∀ a, a ≠ b + 4 → a ≠ b + 7 → m2 a = mem a := hF2
        have hS2 : CS A c m2 b := hS.m (fun a _ _ h4 h7 => g2 a h4 h7)
        refine pw_iload_n 3 rfl dX4_staysAmongMarked_24 rfl ?_
        refine pw_bipush dX4_staysAmongMarked_25 (by decide) ?_
        refine pw_icmp_ge 70 (by decide) dX4_staysAmongMarked_27 (by omega) (by omega) (fun c27 => ?_) (fun c27 => ?_)
        · skip
          have ej : 38 - j = 0 := by omega
          have eM : shM A c x 38 0 = -1 := by rw [hG, ej]; rfl
          refine pw_iconst dX4_staysAmongMarked_70 ?_
          refine pw_zret dX4_staysAmongMarked_71 rfl (by omega) rfl ?_
          have eS : sgR A c x = (-1, -1, -1) := by unfold sgR; rw [if_neg (fun z => z c10), if_neg (fun z => z eM)]
          refine ⟨congrArg (fun z => some (vi z)) ?_, rfl, fun a h4 h7 h8 => g2 a h4 h7, ⟨_, hV2, hv1⟩, Or.inl ⟨by rw [eS], by rw [g2 _ (by omega) (by omega)]⟩⟩
          rw [eS, if_pos rfl]
        · skip
          have eG : 38 - j = (37 - j) + 1 := by omega
          refine pw_aload_n 1 rfl dX4_staysAmongMarked_30 rfl ?_
          refine pw_iload_n 3 rfl dX4_staysAmongMarked_31 rfl ?_
          refine pw_iload_n 2 rfl dX4_staysAmongMarked_32 rfl ?_
          have hnb := h_numberBehind (d - 1) (by omega) n ok m2 hN b hC A c (setV A c v x) hI hS2 hV2 hv1 (j : Int) (by omega) (by rw [g2 2 (by omega) (by omega)]; omega)
          rw [hnum] at hnb
          refine pw_callV (d' := d - 1) (As := [_, _]) (ci := 0) dX4_staysAmongMarked_33 ok_X0_numberBehind kw_983 rfl rfl (Of.o (by assumption)) (by omega) rfl (Nat.le_of_ble_eq_true rfl) hnb (Nat.le_refl _) (Or.inl rfl) (fun r9 ok1 m3 hq => ?_)
          obtain ⟨rfl, rfl, hF3x, hV3⟩ := hq
          have hF3 : Fr2 b mem m3 := fun a h4 h7 => by rw [hF3x a h4 h7]; exact g2 a h4 h7
          have g3 : ∀ a, a ≠ b + 4 → a ≠ b + 7 → m3 a = mem a := hF3
          have hUr := mvN_ran hOk.1 x (mv := (j : Int)) (by omega)
          refine pw_istore dX4_staysAmongMarked_36 (by decide) ?_
          refine pw_iload dX4_staysAmongMarked_38 rfl ?_
          refine pw_iconst dX4_staysAmongMarked_40 ?_
          refine pw_icmp_eq 64 (by decide) dX4_staysAmongMarked_41 (by omega) (by omega) (fun c41 => ?_) (fun c41 => ?_)
          · skip
            refine pw_iinc dX4_staysAmongMarked_64 rfl (by decide) ?_
            refine pw_goto 24 (by decide) dX4_staysAmongMarked_67 ?_
            exact pw_locs _ rfl (ih (j + 1) m3 (by omega) (by omega) (by rw [hG, eG, shM_n, if_neg (fun y => y.1 c41), show 38 - (j + 1) = 37 - j by omega]; rfl) hF3 hV3)
          · skip
            refine pw_aload_n 0 rfl dX4_staysAmongMarked_44 rfl ?_
            refine pw_gR 0 79 dX4_staysAmongMarked_45 cOk4 (by assumption) (by decide) kw_314 (by decide) rfl ?_
            refine pw_iload dX4_staysAmongMarked_48 rfl ?_
            refine pw_baload dX4_staysAmongMarked_50 (by assumption) (by omega) (by omega) (fun r50 => ?_)
            try simp (disch := omega) only [wr_s, wr_a, wr_k] at r50 ⊢
            rw [g3 _ (by omega) (by omega), hMR _ (by omega) (by omega)] at r50 ⊢
            refine pw_if_ne 64 (by decide) dX4_staysAmongMarked_51 (by omega) (fun c51 => ?_) (fun c51 => ?_)
            · skip
              refine pw_iinc dX4_staysAmongMarked_64 rfl (by decide) ?_
              refine pw_goto 24 (by decide) dX4_staysAmongMarked_67 ?_
              exact pw_locs _ rfl (ih (j + 1) m3 (by omega) (by omega) (by rw [hG, eG, shM_n, if_neg (fun y => c51 y.2), show 38 - (j + 1) = 37 - j by omega]; rfl) hF3 hV3)
            · skip
              refine pw_aload_n 0 rfl dX4_staysAmongMarked_54 rfl ?_
              refine pw_iload_n 2 rfl dX4_staysAmongMarked_55 rfl ?_
              refine pw_iload_n 3 rfl dX4_staysAmongMarked_56 rfl ?_
              refine pw_iload dX4_staysAmongMarked_57 rfl ?_
              refine pw_callV (d' := d - 1) (As := [_, _, _]) (ci := 4) dX4_staysAmongMarked_59 ok_X4_noteLook kw_310 rfl rfl (Of.o (by assumption)) (by omega) rfl (Nat.le_of_ble_eq_true rfl) (k_noteLook (d - 1) (by omega) n ok _ hM _ _ _ (by omega) (by omega) (by omega)) (Nat.le_refl _) (Or.inl rfl) (fun r ok1 mem1 hq => ?_)
              obtain ⟨rfl, rfl, em9⟩ := hq
              have eM : shM A c x 38 0 = (j : Int) := by rw [hG, eG, shM_n, if_pos ⟨c41, c51⟩]
              have eS : sgR A c x = (x, (j : Int), (mvN A c x (j : Int))) := by unfold sgR; rw [if_neg (fun z => z c10), if_pos (by omega), eM]
              refine pw_iconst dX4_staysAmongMarked_62 ?_
              refine pw_zret dX4_staysAmongMarked_63 rfl (by omega) rfl ?_
              refine ⟨congrArg (fun z => some (vi z)) ?_, rfl, fun a h4 h7 h8 => ?_, ⟨_, by rw [← em9]; exact hV3.m (lkM_a _ _ _ _ _ (by omega)), hv1⟩, Or.inr ?_⟩
              · rw [eS, if_neg (by show ¬ x = -1; omega)]
              · rw [← em9, lkM_a _ _ _ _ _ h8]; exact g3 a h4 h7
              · rw [eS, ← em9]; exact ⟨by show x ≠ -1; omega, lkM_v _ _ _ _⟩
    exact pw_locs _ rfl (lp24 39 0 m1 (by omega) (by omega) rfl (fun a h4 _ => g1 a h4) hV1)
  · skip
    refine pw_aload_n 0 rfl dX4_staysAmongMarked_13 rfl ?_
    refine pw_iload_n 2 rfl dX4_staysAmongMarked_14 rfl ?_
    refine pw_iconst dX4_staysAmongMarked_15 ?_
    refine pw_iconst dX4_staysAmongMarked_16 ?_
    refine pw_callV (d' := d - 1) (As := [_, _, _]) (ci := 4) dX4_staysAmongMarked_17 ok_X4_noteLook kw_310 rfl rfl (Of.o (by assumption)) (by omega) rfl (Nat.le_of_ble_eq_true rfl) (k_noteLook (d - 1) (by omega) n ok _ hM _ _ _ (by omega) (by omega) (by omega)) (Nat.le_refl _) (Or.inl rfl) (fun r ok1 mem1 hq => ?_)
    obtain ⟨rfl, rfl, em9⟩ := hq
    have eS : sgR A c x = (x, -1, -1) := by unfold sgR; rw [if_pos c10]
    refine pw_iconst dX4_staysAmongMarked_20 ?_
    refine pw_zret dX4_staysAmongMarked_21 rfl (by omega) rfl ?_
    refine ⟨congrArg (fun z => some (vi z)) ?_, rfl, fun a h4 h7 h8 => ?_, ⟨_, by rw [← em9]; exact hV1.m (lkM_a _ _ _ _ _ (by omega)), hv1⟩, Or.inr ?_⟩
    · rw [eS, if_neg (by show ¬ x = -1; omega)]
    · rw [← em9, lkM_a _ _ _ _ _ h8]; exact g1 a h4
    · rw [eS, ← em9]; exact ⟨by show x ≠ -1; omega, lkM_v _ _ _ _⟩
set_option maxHeartbeats 4000000 in
set_option maxRecDepth 100000 in
theorem k_prove (d : Nat) (hd : 6 ≤ d) (n : Nat) (ok : pO) (mem : pM) (hN : NUp n ok) (b : Nat) (hC : ChUp n ok b) (A : pM) (c : Int) (v : Int → Int) (hI : cIn A c) (hS : CS A c mem b) (hV : CV A c mem b v) (hv : pOkv A c v) (hM : MUp n ok) (hMR : MR A mem) (hmb : ∀ j, 0 ≤ j → j < 1024 → A 119 j = 0 ∨ A 119 j = 1) (ht : 0 ≤ mem 2 1 ∧ mem 2 1 ≤ 600000000) : PM mi_X4_prove d [vr 78, vr b] n ok mem n (fun r ok' mem' => r = some (vi (if (rOver A c (numV A c v 16)).1 = -1 then 1 else 0)) ∧ ok = ok' ∧ Fr3 b mem mem' ∧ CV A c mem' b v ∧ mem' 78 1 = (rOver A c (numV A c v 16)).1 ∧ mem' 78 2 = (rOver A c (numV A c v 16)).2.1 ∧ mem' 78 3 = (rOver A c (numV A c v 16)).2.2) := by
  obtain ⟨hN5, hN3⟩ := id hN
  obtain ⟨hC0, ⟨hC1, hC2, hC3, hC4, hC5, hC6, hC7⟩, hC8, ⟨hC9, hC10, hC11, hC12, hC13, hC14, hC15⟩, hC16, hC17, hb5, hb59⟩ := id hC
  obtain ⟨hR, hD, hSo⟩ := id hS
  have hOk := hI.ok
  obtain ⟨hM4, hM9⟩ := id hM
  refine PM.of (by decide) (by decide) (Nat.le_refl _) (Nat.le_of_ble_eq_true rfl) ?_
  refine pw_aload_n 1 rfl dX4_prove_0 rfl ?_
  refine pw_callV (d' := d - 1) (As := []) (ci := 0) dX4_prove_1 ok_X0_number kw_976 rfl rfl (Of.o (by assumption)) (by omega) rfl (Nat.le_of_ble_eq_true rfl) (h_number (d - 1) (by omega) n ok mem hN b hC A c v hI hS hV hv) (Nat.le_refl _) (Or.inl rfl) (fun r ok1 mem1 hq => ?_)
  obtain ⟨rfl, rfl, rfl⟩ := hq
  have hnr := numV_ran hOk.1.2.2 hv 16 (by omega)
  have hpw := hOk.2.2
  have hp1 := pW_ran hOk.1.2.2 16 (by omega)
  refine pw_istore_n 2 rfl dX4_prove_4 (by decide) ?_
  refine pw_aload_n 0 rfl dX4_prove_5 rfl ?_
  refine pw_iconst dX4_prove_6 ?_
  refine pw_iconst dX4_prove_7 ?_
  refine pw_iconst dX4_prove_8 ?_
  refine pw_callV (d' := d - 1) (As := [_, _, _]) (ci := 4) dX4_prove_9 ok_X4_noteLook kw_310 rfl rfl (Of.o (by assumption)) (by omega) rfl (Nat.le_of_ble_eq_true rfl) (k_noteLook (d - 1) (by omega) n ok mem hM _ _ _ (by omega) (by omega) (by omega)) (Nat.le_refl _) (Or.inl rfl) (fun r9 ok1 m0 hq => ?_)
  obtain ⟨rfl, rfl, em0⟩ := hq
  have g0 : ∀ a, a ≠ 78 → m0 a = mem a := fun a ha => by rw [← em0]; exact lkM_a _ _ _ _ _ ha
  have lv := lkM_v mem (-1) (-1) (-1)
  rw [em0] at lv
  refine pw_aload_n 0 rfl dX4_prove_12 rfl ?_
  refine pw_gR 0 79 dX4_prove_13 cOk4 (by assumption) (by decide) kw_314 (by decide) rfl ?_
  refine pw_iload_n 2 rfl dX4_prove_16 rfl ?_
  refine pw_baload dX4_prove_17 (by assumption) (by omega) (by omega) (fun r17 => ?_)
  rw [g0 79 (by omega), hMR _ (by omega) (by omega)] at r17 ⊢
  refine pw_istore_n 3 rfl dX4_prove_18 (by decide) ?_
  refine pw_iload_n 3 rfl dX4_prove_19 rfl ?_
  refine pw_if_ne 31 (by decide) dX4_prove_20 (by omega) (fun c20 => ?_) (fun c20 => ?_)
  · skip
    have eO : rOver A c (numV A c v 16) = shS A c (pW A c 16).toNat 0 := by unfold rOver; rw [if_neg c20]
    have hb1 : A 119 (numV A c v 16) = 1 := by have := hmb (numV A c v 16) (by omega) (by omega); omega
    refine pw_iconst dX4_prove_31 ?_
    refine pw_istore dX4_prove_32 (by decide) ?_
    have lp34 : ∀ (kz : Nat) (k : Nat) (y : Int) (v2 : Int → Int) (m1 : pM), pW A c 16 - (k : Int) < (kz : Int) → ((k : Int) ≤ pW A c 16) → (y = 0 ∨ y = 1) → ((y = 1 ∧ rOver A c (numV A c v 16) = shS A c ((pW A c 16).toNat - k) k ∧ m1 78 1 = -1 ∧ m1 78 2 = -1 ∧ m1 78 3 = -1) ∨ (y = 0 ∧ (rOver A c (numV A c v 16)).1 ≠ -1 ∧ m1 78 1 = (rOver A c (numV A c v 16)).1 ∧ m1 78 2 = (rOver A c (numV A c v 16)).2.1 ∧ m1 78 3 = (rOver A c (numV A c v 16)).2.2)) → (Fr3 b mem m1) → (CV A c m1 b v2) → (pOkv A c v2) → PW mi_X4_prove d n n (fun r ok' mem' => r = some (vi (if (rOver A c (numV A c v 16)).1 = -1 then 1 else 0)) ∧ ok = ok' ∧ Fr3 b mem mem' ∧ CV A c mem' b v ∧ mem' 78 1 = (rOver A c (numV A c v 16)).1 ∧ mem' 78 2 = (rOver A c (numV A c v 16)).2.1 ∧ mem' 78 3 = (rOver A c (numV A c v 16)).2.2) 34 [(0, vr 78), (1, vr b), (2, vi (numV A c v 16)), (3, vi y), (4, vi (k : Int))] [] n ok m1 := by
      intro kz
      induction kz with
      | zero =>
        intro k y v2 m1 hk hk9 hy01 hin hF1 hV1 hv1
        exact absurd hk (by omega)
      | succ kz ih =>
        intro k y v2 m1 hk hk9 hy01 hin hF1 hV1 hv1
        have hS1 : CS A c m1 b := hS.m (fun a _ _ h4 h7 => hF1 a h4 h7 (by omega))
        have hMR1 : MR A m1 := fun j j1 j2 => by rw [hF1 79 (by omega) (by omega) (by omega)]; exact hMR j j1 j2
        
        refine pw_iload dX4_prove_34 rfl ?_
        refine pw_aload_n 1 rfl dX4_prove_36 rfl ?_
        refine pw_gI 11 11 rfl dX4_prove_37 cOk0 (by assumption) (by decide) kw_252 (by decide) (fun r37 => ?_)
        try simp (disch := omega) only [wr_s, wr_a, wr_k] at r37 ⊢
        rw [show m1 b 11 = pW A c 16 from by rw [hF1 b (by omega) (by omega) (by omega)]; exact hD.2.1] at r37 ⊢
        refine pw_icmp_ge 79 (by decide) dX4_prove_40 (by omega) (by omega) (fun c40 => ?_) (fun c40 => ?_)
        · skip
          refine pw_aload_n 1 rfl dX4_prove_79 rfl ?_
          refine pw_iload_n 2 rfl dX4_prove_80 rfl ?_
          refine pw_callV (d' := d - 1) (As := [_]) (ci := 0) dX4_prove_81 ok_X0_standAt kw_981 rfl rfl (Of.o (by assumption)) (by omega) rfl (Nat.le_of_ble_eq_true rfl) (h_standAt (d - 1) (by omega) n ok m1 hN b hC A c v2 hI hS1 hV1 hv1 (numV A c v 16) (by omega)) (Nat.le_refl _) (Or.inl rfl) (fun r9 ok1 m4 hq => ?_)
          obtain ⟨rfl, rfl, hF4, hV4⟩ := hq
          have g4 : ∀ a, a ≠ b + 4 → m4 a = m1 a := hF4
          refine pw_iload_n 3 rfl dX4_prove_84 rfl ?_
          refine pw_zret dX4_prove_85 rfl (by omega) rfl ?_
          have hfin : (y = 1 ∧ rOver A c (numV A c v 16) = (-1, -1, -1)) ∨ (y = 0 ∧ (rOver A c (numV A c v 16)).1 ≠ -1) := by
            rcases hin with z | z
            · rw [show (pW A c 16).toNat - k = 0 by omega] at z; exact Or.inl ⟨z.1, z.2.1⟩
            · exact Or.inr ⟨z.1, z.2.1⟩
          have hlk9 : m1 78 1 = (rOver A c (numV A c v 16)).1 ∧ m1 78 2 = (rOver A c (numV A c v 16)).2.1 ∧ m1 78 3 = (rOver A c (numV A c v 16)).2.2 := by
            rcases hin with z | z
            · rcases hfin with w | w
              · rw [w.2]; exact z.2.2
              · omega
            · exact z.2.2
          refine ⟨congrArg (fun z => some (vi z)) ?_, rfl, fun a h4 h7 h8 => by rw [g4 a h4]; exact hF1 a h4 h7 h8, hV4.k (setV_num hOk.1.2.2 v2 hv), ?_⟩
          · rcases hfin with w | w
            · rw [w.2, w.1]; rfl
            · rw [if_neg w.2, w.1]
          · rw [g4 _ (by omega)]; exact hlk9
        · skip
          refine pw_iload_n 3 rfl dX4_prove_43 rfl ?_
          refine pw_if_eq 79 (by decide) dX4_prove_44 (by omega) (fun c44 => ?_) (fun c44 => ?_)
          · skip
            refine pw_aload_n 1 rfl dX4_prove_79 rfl ?_
            refine pw_iload_n 2 rfl dX4_prove_80 rfl ?_
            refine pw_callV (d' := d - 1) (As := [_]) (ci := 0) dX4_prove_81 ok_X0_standAt kw_981 rfl rfl (Of.o (by assumption)) (by omega) rfl (Nat.le_of_ble_eq_true rfl) (h_standAt (d - 1) (by omega) n ok m1 hN b hC A c v2 hI hS1 hV1 hv1 (numV A c v 16) (by omega)) (Nat.le_refl _) (Or.inl rfl) (fun r9 ok1 m4 hq => ?_)
            obtain ⟨rfl, rfl, hF4, hV4⟩ := hq
            have g4 : ∀ a, a ≠ b + 4 → m4 a = m1 a := hF4
            refine pw_iload_n 3 rfl dX4_prove_84 rfl ?_
            refine pw_zret dX4_prove_85 rfl (by omega) rfl ?_
            have hfin : (y = 1 ∧ rOver A c (numV A c v 16) = (-1, -1, -1)) ∨ (y = 0 ∧ (rOver A c (numV A c v 16)).1 ≠ -1) := by
              rcases hin with z | z
              · exact absurd c44 (by omega)
              · exact Or.inr ⟨z.1, z.2.1⟩
            have hlk9 : m1 78 1 = (rOver A c (numV A c v 16)).1 ∧ m1 78 2 = (rOver A c (numV A c v 16)).2.1 ∧ m1 78 3 = (rOver A c (numV A c v 16)).2.2 := by
              rcases hin with z | z
              · rcases hfin with w | w
                · rw [w.2]; exact z.2.2
                · omega
              · exact z.2.2
            refine ⟨congrArg (fun z => some (vi z)) ?_, rfl, fun a h4 h7 h8 => by rw [g4 a h4]; exact hF1 a h4 h7 h8, hV4.k (setV_num hOk.1.2.2 v2 hv), ?_⟩
            · rcases hfin with w | w
              · rw [w.2, w.1]; rfl
              · rw [if_neg w.2, w.1]
            · rw [g4 _ (by omega)]; exact hlk9
          · skip
            have hy1 : y = 1 ∧ rOver A c (numV A c v 16) = shS A c ((pW A c 16).toNat - k) k ∧ m1 78 1 = -1 ∧ m1 78 2 = -1 ∧ m1 78 3 = -1 := by rcases hin with z | z; exact z; exact absurd z.1 c44
            have eG : (pW A c 16).toNat - k = ((pW A c 16).toNat - (k + 1)) + 1 := by omega
            have hst := hy1.2.1
            rw [eG, shS_g A c _ _ (by omega)] at hst
            refine pw_aload_n 0 rfl dX4_prove_47 rfl ?_
            refine pw_gR 0 79 dX4_prove_48 cOk4 (by assumption) (by decide) kw_314 (by decide) rfl ?_
            refine pw_iload dX4_prove_51 rfl ?_
            refine pw_baload dX4_prove_53 (by assumption) (by omega) (by omega) (fun r53 => ?_)
            try simp (disch := omega) only [wr_s, wr_a, wr_k] at r53 ⊢
            rw [hF1 79 (by omega) (by omega) (by omega), hMR _ (by omega) (by omega)] at r53 ⊢
            refine pw_if_eq 67 (by decide) dX4_prove_54 (by omega) (fun c54 => ?_) (fun c54 => ?_)
            · skip
              refine pw_iconst dX4_prove_67 ?_
              refine pw_goto 72 (by decide) dX4_prove_68 ?_
              refine pw_istore_n 3 rfl dX4_prove_72 (by decide) ?_
              refine pw_iinc dX4_prove_73 rfl (by decide) ?_
              refine pw_goto 34 (by decide) dX4_prove_76 ?_
              exact pw_locs _ rfl (ih (k + 1) 1 v2 m1 (by omega) (by omega) (by omega) (Or.inl ⟨rfl, by rw [hst, if_pos c54]; rfl, hy1.2.2⟩) hF1 hV1 hv1)
            · skip
              refine pw_aload_n 0 rfl dX4_prove_57 rfl ?_
              refine pw_aload_n 1 rfl dX4_prove_58 rfl ?_
              refine pw_iload dX4_prove_59 rfl ?_
              refine pw_callV (d' := d - 1) (As := [_, _]) (ci := 4) dX4_prove_61 ok_X4_staysAmongMarked kw_977 rfl rfl (Of.o (by assumption)) (by omega) rfl (Nat.le_of_ble_eq_true rfl) (k_stays (d - 1) (by omega) n ok m1 hN b hC A c v2 hI hS1 hV1 hv1 hM hMR1 (k : Int) (by omega) (by rw [hF1 2 (by omega) (by omega) (by omega)]; omega)) (Nat.le_refl _) (Or.inl rfl) (fun r9 ok1 m3 hq => ?_)
              obtain ⟨rfl, rfl, hF3, ⟨v3, hV3, hv3⟩, hlk⟩ := hq
              have hF9 : Fr3 b mem m3 := fun a h1 h2 h3 => by rw [hF3 a h1 h2 h3]; exact hF1 a h1 h2 h3
              refine pw_if_eq 71 (by decide) dX4_prove_64 (by split <;> omega) (fun c64 => ?_) (fun c64 => ?_)
              · skip
                rw [bz_0] at c64
                have hr : rOver A c (numV A c v 16) = sgR A c (k : Int) := by rw [hst, if_neg c54, if_pos c64]
                have hl2 : m3 78 1 = (sgR A c (k : Int)).1 ∧ m3 78 2 = (sgR A c (k : Int)).2.1 ∧ m3 78 3 = (sgR A c (k : Int)).2.2 := by rcases hlk with z | z; exact absurd z.1 c64; exact z.2
                refine pw_iconst dX4_prove_71 ?_
                refine pw_istore_n 3 rfl dX4_prove_72 (by decide) ?_
                refine pw_iinc dX4_prove_73 rfl (by decide) ?_
                refine pw_goto 34 (by decide) dX4_prove_76 ?_
                exact pw_locs _ rfl (ih (k + 1) 0 v3 m3 (by omega) (by omega) (by omega) (Or.inr ⟨rfl, by rw [hr]; exact c64, by rw [hr]; exact hl2⟩) hF9 hV3 hv3)
              · skip
                rw [bz_n] at c64
                have c64 : (sgR A c (k : Int)).1 = -1 := by
                  by_cases q : (sgR A c (k : Int)).1 = -1
                  · exact q
                  · exact absurd c64 (by simpa using q)
                have hr : rOver A c (numV A c v 16) = shS A c ((pW A c 16).toNat - (k + 1)) ((k : Int) + 1) := by rw [hst, if_neg c54, if_neg (fun z => z c64)]
                have hl2 : m3 78 = m1 78 := by rcases hlk with z | z; exact z.2; exact absurd c64 z.1
                refine pw_iconst dX4_prove_67 ?_
                refine pw_goto 72 (by decide) dX4_prove_68 ?_
                refine pw_istore_n 3 rfl dX4_prove_72 (by decide) ?_
                refine pw_iinc dX4_prove_73 rfl (by decide) ?_
                refine pw_goto 34 (by decide) dX4_prove_76 ?_
                exact pw_locs _ rfl (ih (k + 1) 1 v3 m3 (by omega) (by omega) (by omega) (Or.inl ⟨rfl, hr, by rw [hl2]; exact hy1.2.2⟩) hF9 hV3 hv3)
    exact pw_locs _ rfl (lp34 1025 0 _ v m0 (by omega) (by omega) (by omega) (Or.inl ⟨hb1, eO, lv⟩) (fun a _ _ h3 => g0 a h3) (hV.m (g0 _ (by omega))) hv)
  · skip
    refine pw_aload_n 0 rfl dX4_prove_23 rfl ?_
    refine pw_iload_n 2 rfl dX4_prove_24 rfl ?_
    refine pw_bipush dX4_prove_25 (by decide) ?_
    refine pw_iconst dX4_prove_27 ?_
    refine pw_callV (d' := d - 1) (As := [_, _, _]) (ci := 4) dX4_prove_28 ok_X4_noteLook kw_310 rfl rfl (Of.o (by assumption)) (by omega) rfl (Nat.le_of_ble_eq_true rfl) (k_noteLook (d - 1) (by omega) n ok m0 hM _ _ _ (by omega) (by omega) (by omega)) (Nat.le_refl _) (Or.inl rfl) (fun r9 ok1 m9 hq => ?_)
    obtain ⟨rfl, rfl, em9⟩ := hq
    have g9 : ∀ a, a ≠ 78 → m9 a = mem a := fun a ha => by rw [← em9, lkM_a _ _ _ _ _ ha]; exact g0 a ha
    have lv9 := lkM_v m0 (numV A c v 16) (-2) (-1)
    rw [em9] at lv9
    have eO : rOver A c (numV A c v 16) = ((numV A c v 16), -2, -1) := by unfold rOver; rw [if_pos (by omega)]
    refine pw_iconst dX4_prove_31 ?_
    refine pw_istore dX4_prove_32 (by decide) ?_
    have lp34 : ∀ (kz : Nat) (k : Nat) (y : Int) (v2 : Int → Int) (m1 : pM), pW A c 16 - (k : Int) < (kz : Int) → ((k : Int) ≤ pW A c 16) → (y = 0 ∨ y = 1) → ((y = 1 ∧ rOver A c (numV A c v 16) = shS A c ((pW A c 16).toNat - k) k ∧ m1 78 1 = -1 ∧ m1 78 2 = -1 ∧ m1 78 3 = -1) ∨ (y = 0 ∧ (rOver A c (numV A c v 16)).1 ≠ -1 ∧ m1 78 1 = (rOver A c (numV A c v 16)).1 ∧ m1 78 2 = (rOver A c (numV A c v 16)).2.1 ∧ m1 78 3 = (rOver A c (numV A c v 16)).2.2)) → (Fr3 b mem m1) → (CV A c m1 b v2) → (pOkv A c v2) → PW mi_X4_prove d n n (fun r ok' mem' => r = some (vi (if (rOver A c (numV A c v 16)).1 = -1 then 1 else 0)) ∧ ok = ok' ∧ Fr3 b mem mem' ∧ CV A c mem' b v ∧ mem' 78 1 = (rOver A c (numV A c v 16)).1 ∧ mem' 78 2 = (rOver A c (numV A c v 16)).2.1 ∧ mem' 78 3 = (rOver A c (numV A c v 16)).2.2) 34 [(0, vr 78), (1, vr b), (2, vi (numV A c v 16)), (3, vi y), (4, vi (k : Int))] [] n ok m1 := by
      intro kz
      induction kz with
      | zero =>
        intro k y v2 m1 hk hk9 hy01 hin hF1 hV1 hv1
        exact absurd hk (by omega)
      | succ kz ih =>
        intro k y v2 m1 hk hk9 hy01 hin hF1 hV1 hv1
        have hS1 : CS A c m1 b := hS.m (fun a _ _ h4 h7 => hF1 a h4 h7 (by omega))
        have hMR1 : MR A m1 := fun j j1 j2 => by rw [hF1 79 (by omega) (by omega) (by omega)]; exact hMR j j1 j2
        
        refine pw_iload dX4_prove_34 rfl ?_
        refine pw_aload_n 1 rfl dX4_prove_36 rfl ?_
        refine pw_gI 11 11 rfl dX4_prove_37 cOk0 (by assumption) (by decide) kw_252 (by decide) (fun r37 => ?_)
        try simp (disch := omega) only [wr_s, wr_a, wr_k] at r37 ⊢
        rw [show m1 b 11 = pW A c 16 from by rw [hF1 b (by omega) (by omega) (by omega)]; exact hD.2.1] at r37 ⊢
        refine pw_icmp_ge 79 (by decide) dX4_prove_40 (by omega) (by omega) (fun c40 => ?_) (fun c40 => ?_)
        · skip
          refine pw_aload_n 1 rfl dX4_prove_79 rfl ?_
          refine pw_iload_n 2 rfl dX4_prove_80 rfl ?_
          refine pw_callV (d' := d - 1) (As := [_]) (ci := 0) dX4_prove_81 ok_X0_standAt kw_981 rfl rfl (Of.o (by assumption)) (by omega) rfl (Nat.le_of_ble_eq_true rfl) (h_standAt (d - 1) (by omega) n ok m1 hN b hC A c v2 hI hS1 hV1 hv1 (numV A c v 16) (by omega)) (Nat.le_refl _) (Or.inl rfl) (fun r9 ok1 m4 hq => ?_)
          obtain ⟨rfl, rfl, hF4, hV4⟩ := hq
          have g4 : ∀ a, a ≠ b + 4 → m4 a = m1 a := hF4
          refine pw_iload_n 3 rfl dX4_prove_84 rfl ?_
          refine pw_zret dX4_prove_85 rfl (by omega) rfl ?_
          have hfin : (y = 1 ∧ rOver A c (numV A c v 16) = (-1, -1, -1)) ∨ (y = 0 ∧ (rOver A c (numV A c v 16)).1 ≠ -1) := by
            rcases hin with z | z
            · rw [show (pW A c 16).toNat - k = 0 by omega] at z; exact Or.inl ⟨z.1, z.2.1⟩
            · exact Or.inr ⟨z.1, z.2.1⟩
          have hlk9 : m1 78 1 = (rOver A c (numV A c v 16)).1 ∧ m1 78 2 = (rOver A c (numV A c v 16)).2.1 ∧ m1 78 3 = (rOver A c (numV A c v 16)).2.2 := by
            rcases hin with z | z
            · rcases hfin with w | w
              · rw [w.2]; exact z.2.2
              · omega
            · exact z.2.2
          refine ⟨congrArg (fun z => some (vi z)) ?_, rfl, fun a h4 h7 h8 => by rw [g4 a h4]; exact hF1 a h4 h7 h8, hV4.k (setV_num hOk.1.2.2 v2 hv), ?_⟩
          · rcases hfin with w | w
            · rw [w.2, w.1]; rfl
            · rw [if_neg w.2, w.1]
          · rw [g4 _ (by omega)]; exact hlk9
        · skip
          refine pw_iload_n 3 rfl dX4_prove_43 rfl ?_
          refine pw_if_eq 79 (by decide) dX4_prove_44 (by omega) (fun c44 => ?_) (fun c44 => ?_)
          · skip
            refine pw_aload_n 1 rfl dX4_prove_79 rfl ?_
            refine pw_iload_n 2 rfl dX4_prove_80 rfl ?_
            refine pw_callV (d' := d - 1) (As := [_]) (ci := 0) dX4_prove_81 ok_X0_standAt kw_981 rfl rfl (Of.o (by assumption)) (by omega) rfl (Nat.le_of_ble_eq_true rfl) (h_standAt (d - 1) (by omega) n ok m1 hN b hC A c v2 hI hS1 hV1 hv1 (numV A c v 16) (by omega)) (Nat.le_refl _) (Or.inl rfl) (fun r9 ok1 m4 hq => ?_)
            obtain ⟨rfl, rfl, hF4, hV4⟩ := hq
            have g4 : ∀ a, a ≠ b + 4 → m4 a = m1 a := hF4
            refine pw_iload_n 3 rfl dX4_prove_84 rfl ?_
            refine pw_zret dX4_prove_85 rfl (by omega) rfl ?_
            have hfin : (y = 1 ∧ rOver A c (numV A c v 16) = (-1, -1, -1)) ∨ (y = 0 ∧ (rOver A c (numV A c v 16)).1 ≠ -1) := by
              rcases hin with z | z
              · exact absurd c44 (by omega)
              · exact Or.inr ⟨z.1, z.2.1⟩
            have hlk9 : m1 78 1 = (rOver A c (numV A c v 16)).1 ∧ m1 78 2 = (rOver A c (numV A c v 16)).2.1 ∧ m1 78 3 = (rOver A c (numV A c v 16)).2.2 := by
              rcases hin with z | z
              · rcases hfin with w | w
                · rw [w.2]; exact z.2.2
                · omega
              · exact z.2.2
            refine ⟨congrArg (fun z => some (vi z)) ?_, rfl, fun a h4 h7 h8 => by rw [g4 a h4]; exact hF1 a h4 h7 h8, hV4.k (setV_num hOk.1.2.2 v2 hv), ?_⟩
            · rcases hfin with w | w
              · rw [w.2, w.1]; rfl
              · rw [if_neg w.2, w.1]
            · rw [g4 _ (by omega)]; exact hlk9
          · skip
            have hy1 : y = 1 ∧ rOver A c (numV A c v 16) = shS A c ((pW A c 16).toNat - k) k ∧ m1 78 1 = -1 ∧ m1 78 2 = -1 ∧ m1 78 3 = -1 := by rcases hin with z | z; exact z; exact absurd z.1 c44
            have eG : (pW A c 16).toNat - k = ((pW A c 16).toNat - (k + 1)) + 1 := by omega
            have hst := hy1.2.1
            rw [eG, shS_g A c _ _ (by omega)] at hst
            refine pw_aload_n 0 rfl dX4_prove_47 rfl ?_
            refine pw_gR 0 79 dX4_prove_48 cOk4 (by assumption) (by decide) kw_314 (by decide) rfl ?_
            refine pw_iload dX4_prove_51 rfl ?_
            refine pw_baload dX4_prove_53 (by assumption) (by omega) (by omega) (fun r53 => ?_)
            try simp (disch := omega) only [wr_s, wr_a, wr_k] at r53 ⊢
            rw [hF1 79 (by omega) (by omega) (by omega), hMR _ (by omega) (by omega)] at r53 ⊢
            refine pw_if_eq 67 (by decide) dX4_prove_54 (by omega) (fun c54 => ?_) (fun c54 => ?_)
            · skip
              refine pw_iconst dX4_prove_67 ?_
              refine pw_goto 72 (by decide) dX4_prove_68 ?_
              refine pw_istore_n 3 rfl dX4_prove_72 (by decide) ?_
              refine pw_iinc dX4_prove_73 rfl (by decide) ?_
              refine pw_goto 34 (by decide) dX4_prove_76 ?_
              exact pw_locs _ rfl (ih (k + 1) 1 v2 m1 (by omega) (by omega) (by omega) (Or.inl ⟨rfl, by rw [hst, if_pos c54]; rfl, hy1.2.2⟩) hF1 hV1 hv1)
            · skip
              refine pw_aload_n 0 rfl dX4_prove_57 rfl ?_
              refine pw_aload_n 1 rfl dX4_prove_58 rfl ?_
              refine pw_iload dX4_prove_59 rfl ?_
              refine pw_callV (d' := d - 1) (As := [_, _]) (ci := 4) dX4_prove_61 ok_X4_staysAmongMarked kw_977 rfl rfl (Of.o (by assumption)) (by omega) rfl (Nat.le_of_ble_eq_true rfl) (k_stays (d - 1) (by omega) n ok m1 hN b hC A c v2 hI hS1 hV1 hv1 hM hMR1 (k : Int) (by omega) (by rw [hF1 2 (by omega) (by omega) (by omega)]; omega)) (Nat.le_refl _) (Or.inl rfl) (fun r9 ok1 m3 hq => ?_)
              obtain ⟨rfl, rfl, hF3, ⟨v3, hV3, hv3⟩, hlk⟩ := hq
              have hF9 : Fr3 b mem m3 := fun a h1 h2 h3 => by rw [hF3 a h1 h2 h3]; exact hF1 a h1 h2 h3
              refine pw_if_eq 71 (by decide) dX4_prove_64 (by split <;> omega) (fun c64 => ?_) (fun c64 => ?_)
              · skip
                rw [bz_0] at c64
                have hr : rOver A c (numV A c v 16) = sgR A c (k : Int) := by rw [hst, if_neg c54, if_pos c64]
                have hl2 : m3 78 1 = (sgR A c (k : Int)).1 ∧ m3 78 2 = (sgR A c (k : Int)).2.1 ∧ m3 78 3 = (sgR A c (k : Int)).2.2 := by rcases hlk with z | z; exact absurd z.1 c64; exact z.2
                refine pw_iconst dX4_prove_71 ?_
                refine pw_istore_n 3 rfl dX4_prove_72 (by decide) ?_
                refine pw_iinc dX4_prove_73 rfl (by decide) ?_
                refine pw_goto 34 (by decide) dX4_prove_76 ?_
                exact pw_locs _ rfl (ih (k + 1) 0 v3 m3 (by omega) (by omega) (by omega) (Or.inr ⟨rfl, by rw [hr]; exact c64, by rw [hr]; exact hl2⟩) hF9 hV3 hv3)
              · skip
                rw [bz_n] at c64
                have c64 : (sgR A c (k : Int)).1 = -1 := by
                  by_cases q : (sgR A c (k : Int)).1 = -1
                  · exact q
                  · exact absurd c64 (by simpa using q)
                have hr : rOver A c (numV A c v 16) = shS A c ((pW A c 16).toNat - (k + 1)) ((k : Int) + 1) := by rw [hst, if_neg c54, if_neg (fun z => z c64)]
                have hl2 : m3 78 = m1 78 := by rcases hlk with z | z; exact z.2; exact absurd c64 z.1
                refine pw_iconst dX4_prove_67 ?_
                refine pw_goto 72 (by decide) dX4_prove_68 ?_
                refine pw_istore_n 3 rfl dX4_prove_72 (by decide) ?_
                refine pw_iinc dX4_prove_73 rfl (by decide) ?_
                refine pw_goto 34 (by decide) dX4_prove_76 ?_
                exact pw_locs _ rfl (ih (k + 1) 1 v3 m3 (by omega) (by omega) (by omega) (Or.inl ⟨rfl, hr, by rw [hl2]; exact hy1.2.2⟩) hF9 hV3 hv3)
    exact pw_locs _ rfl (lp34 1025 0 _ v m9 (by omega) (by omega) (by omega) (Or.inr ⟨by omega, by rw [eO]; show (numV A c v 16) ≠ -1; omega, by rw [eO]; exact lv9⟩) (fun a _ _ h3 => g9 a h3) (hV.m (g9 _ (by omega))) hv)
