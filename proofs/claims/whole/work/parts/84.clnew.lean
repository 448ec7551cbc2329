/-! ===== new objects: which references count; roads and search made ===== -/
def okE (n : Nat) (ok ok' : pO) : Prop := ∀ a k, 1 ≤ a → a ≤ n → (ck a = 3 ∨ (10 ≤ ck a ∧ fK (ck a - 10) k = 2)) → ok' a k = ok a k
theorem wsL_ok {E : pE} {ad : Nat → Nat} {n : Nat} {ok ok' : pO} {mem : pM} (hn9 : n ≤ 133) (h : okE n ok ok') : wsL E ad n ok' mem = wsL E ad n ok mem := by
  unfold wsL
  apply List.map_congr_left
  intro i hi
  have hi := List.mem_range.mp hi
  have e : reE E ad ok' mem (i + 1) = reE E ad ok mem (i + 1) := by
    unfold reE
    rcases ck_pos (show 1 ≤ i + 1 by omega) (show i + 1 ≤ 133 by omega) with q | q | q | q
    · rw [if_pos q, if_pos q]
    · simp [q]
    · have e3 : (fun j : Nat => if ok' (i + 1) j = true then some (ad (cTg j)) else none) = (fun j : Nat => if ok (i + 1) j = true then some (ad (cTg j)) else none) := by
        funext j
        rw [h (i + 1) j (by omega) (by omega) (Or.inl q)]
      simp [q, e3]
    · have q1 : ¬ ck (i + 1) = 1 := by omega
      have q2 : ¬ ck (i + 1) = 2 := by omega
      have q3 : ¬ ck (i + 1) = 3 := by omega
      simp only [q1, q2, q3, if_false]
      congr 2
      apply List.map_congr_left
      intro k _
      unfold reF
      by_cases z : fK (ck (i + 1) - 10) k = 2
      · rw [if_pos z, if_pos z, h (i + 1) k (by omega) (by omega) (Or.inr ⟨q, z⟩)]
      · rw [if_neg z, if_neg z]
  rw [e]
theorem Nrm_ok {n : Nat} {ok ok' : pO} {mem : pM} (h : okE n ok ok') (hN : Nrm n ok mem) : Nrm n ok' mem := by
  obtain ⟨h1, h2, h3, h4, h5⟩ := hN
  exact ⟨h1, fun a k a1 a2 a3 a4 a5 => h2 a k a1 a2 a3 a4 (by rw [← h a k a1 a2 (Or.inr ⟨a3, a4⟩)]; exact a5), fun a k a1 a2 a3 a4 => h3 a k a1 a2 a3 (by rw [← h a k a1 a2 (Or.inl a3)]; exact a4), h4, h5⟩
theorem pw_okc {mi : MI} {d nf n0 : Nat} {Q : pQt} {pc : Nat} {ls : List (Nat × pV)} {st : List pV} {n : Nat} {ok : pO} {mem : pM} (ok' : pO) (h : okE n ok ok') (k : PW mi d nf n0 Q pc ls st n ok' mem) : PW mi d nf n0 Q pc ls st n ok mem := by
  intro p l e R s m args below meth c Z E ad0 H locs ad lsr C hW hS hv h0 h1 hag
  obtain ⟨hP, hK, hD, hN, hs⟩ := hW
  exact k p l e R s m args below meth c Z E ad0 H locs ad lsr C ⟨by rw [wsL_ok hN.2.2.2.2 h]; exact hP, hK, by rw [wsL_ok hN.2.2.2.2 h]; exact hD, Nrm_ok h hN, hs⟩ hS hv h0 h1 hag
/-- all references of one object set -/
def okF (ok : pO) (a : Nat) : pO := fun b j => if b = a then true else ok b j
theorem okF_s (ok : pO) (a k : Nat) : okF ok a a k = true := if_pos rfl
theorem okF_n (ok : pO) {a b : Nat} (h : b ≠ a) : okF ok a b = ok b := by funext j; exact if_neg h
theorem fK_lt {ci k : Nat} (h : fK ci k = 2) : k < 57 := by
  by_cases q : k < 57
  · exact q
  · exfalso
    have hl : ∀ l ∈ fTab, l.length ≤ 57 := by decide +kernel
    have e : fE ci k = (9, 0, 0) := by
      unfold fE
      rw [List.getD_eq_getElem?_getD, List.getD_eq_getElem?_getD, List.getElem?_eq_none]
      · rfl
      · by_cases z : ci < fTab.length
        · rw [List.getElem?_eq_getElem z]
          have := hl _ (List.getElem_mem z)
          show (fTab[ci]).length ≤ k
          omega
        · rw [List.getElem?_eq_none (by omega)]
          exact Nat.zero_le _
    unfold fK at h
    rw [e] at h
    cases h
theorem okE_F {n : Nat} {ok : pO} {a ci : Nat} (hc : ck a = 10 + ci) (h : ∀ k, k < 57 → fK ci k = 2 → ok a k = true) : okE n ok (okF ok a) := fun b k b1 b2 hb => by
  by_cases q : b = a
  · subst q
    rw [okF_s]
    rcases hb with z | z
    · omega
    · have e : ck b - 10 = ci := by omega
      rw [e] at z
      exact (h k (fK_lt z.2) z.2).symm
  · rw [okF_n ok q]
theorem okS_t (ok : pO) (a k : Nat) : okS ok a k a k = true := by unfold okS; rw [if_pos ⟨rfl, rfl⟩]
theorem okS_o (ok : pO) {a b : Nat} (k : Nat) (h : b ≠ a) : okS ok a k b = ok b := by funext j; unfold okS; rw [if_neg (fun z => h z.1)]
theorem okS_i (ok : pO) (a : Nat) {k j : Nat} (h : j ≠ k) : okS ok a k a j = ok a j := by unfold okS; rw [if_neg (fun z => h z.2)]
theorem okZ_o (ok : pO) {a b : Nat} (h : b ≠ a) : okZ ok a b = ok b := by funext j; unfold okZ; rw [if_neg h]
theorem zr_a (m : pM) {a b : Nat} (h : b ≠ a) : zr m a b = m b := by funext j; unfold zr; rw [if_neg h]
theorem zr_s (m : pM) (a : Nat) (j : Int) : zr m a a j = 0 := by unfold zr; rw [if_pos rfl]
set_option maxHeartbeats 4000000 in
set_option maxRecDepth 100000 in
theorem i_roads (d : Nat) (hd : 1 ≤ d) (ok : pO) (mem : pM) : PM mi_X6_init d [vr 131] 131 ok mem 133 (fun r ok' mem' => r = none ∧ (∀ a, a ≤ 130 → ok' a = ok a ∧ mem' a = mem a) ∧ ∀ k, ok' 131 k = true) := by
  refine PM.of (by decide) (by decide) (by omega) (Nat.le_of_ble_eq_true rfl) ?_
  refine pw_aload_n 0 rfl dX6_init_0 rfl ?_
  refine pw_objInit dX6_init_1 kw_542 kw_94 kw_95 (by omega) (Nat.le_of_ble_eq_true rfl) (by omega) ?_
  refine pw_aload_n 0 rfl dX6_init_4 rfl ?_
  refine pw_sipush dX6_init_5 (by decide) ?_
  refine pw_newI (L := 1024) rfl dX6_init_8 kw_118 (by decide) (by decide) (by decide) (by omega) (by omega) (by simp [lvA, lput, lput2, nrf, wct, isl]) (by simp [lvA, lput, lput2, nrf, wct, isl]) ?_
  refine pw_putR 0 dX6_init_10 cOk6 ⟨by omega, by omega, by decide⟩ (by decide) kw_543 (Or.inr ⟨rfl, rfl, rfl⟩) (Or.inr ⟨_, rfl⟩) (by decide) rfl (by omega) (by omega) ?_
  refine pw_aload_n 0 rfl dX6_init_13 rfl ?_
  refine pw_sipush dX6_init_14 (by decide) ?_
  refine pw_newI (L := 12288) rfl dX6_init_17 kw_118 (by decide) (by decide) (by decide) (by omega) (by omega) (by simp [lvA, lput, lput2, nrf, wct, isl]) (by simp [lvA, lput, lput2, nrf, wct, isl]) ?_
  refine pw_putR 1 dX6_init_19 cOk6 ⟨by omega, by omega, by decide⟩ (by decide) kw_544 (Or.inr ⟨rfl, rfl, rfl⟩) (Or.inr ⟨_, rfl⟩) (by decide) rfl (by omega) (by omega) ?_
  refine pw_okc (okF _ 131) (okE_F (ci := 6) (by decide) (fun k k1 k2 => ?_)) ?_
  · have hk2 : k = 0 ∨ k = 1 := by revert k; decide +kernel
    rcases hk2 with e | e
    · subst e; rw [okS_i _ _ (by omega), okZ_o _ (by omega), okS_t]
    · subst e; rw [okS_t]
  refine pw_vret dX6_init_22 rfl rfl ?_
  refine ⟨rfl, fun a ha => ⟨?_, ?_⟩, fun k => okF_s _ _ _⟩
  · rw [okF_n _ (by omega), okS_o _ _ (by omega), okZ_o _ (by omega), okS_o _ _ (by omega), okZ_o _ (by omega)]
  · rw [zr_a _ (by omega), zr_a _ (by omega)]
set_option maxHeartbeats 4000000 in
set_option maxRecDepth 100000 in
theorem i_search (d : Nat) (hd : 2 ≤ d) (ok : pO) (mem : pM) : PM mi_X7_init d [vr 123, vr 59] 123 ok mem 133 (fun r ok' mem' => r = none ∧ (∀ a, a ≤ 122 → ok' a = ok a ∧ mem' a = mem a) ∧ ∀ k, ok' 123 k = true ∧ ok' 131 k = true) := by
  refine PM.of (by decide) (by decide) (by omega) (Nat.le_of_ble_eq_true rfl) ?_
  refine pw_aload_n 0 rfl dX7_init_0 rfl ?_
  refine pw_objInit dX7_init_1 kw_536 kw_94 kw_95 (by omega) (Nat.le_of_ble_eq_true rfl) (by omega) ?_
  refine pw_aload_n 0 rfl dX7_init_4 rfl ?_
  refine pw_sipush dX7_init_5 (by decide) ?_
  refine pw_newI (L := 1024) rfl dX7_init_8 kw_118 (by decide) (by decide) (by decide) (by omega) (by omega) (by simp [lvA, lput, lput2, nrf, wct, isl]) (by simp [lvA, lput, lput2, nrf, wct, isl]) ?_
  refine pw_putR 0 dX7_init_10 cOk7 ⟨by omega, by omega, by decide⟩ (by decide) kw_553 (Or.inr ⟨rfl, rfl, rfl⟩) (Or.inr ⟨_, rfl⟩) (by decide) rfl (by omega) (by omega) ?_
  refine pw_aload_n 0 rfl dX7_init_13 rfl ?_
  refine pw_sipush dX7_init_14 (by decide) ?_
  refine pw_newI (L := 1024) rfl dX7_init_17 kw_118 (by decide) (by decide) (by decide) (by omega) (by omega) (by simp [lvA, lput, lput2, nrf, wct, isl]) (by simp [lvA, lput, lput2, nrf, wct, isl]) ?_
  refine pw_putR 1 dX7_init_19 cOk7 ⟨by omega, by omega, by decide⟩ (by decide) kw_555 (Or.inr ⟨rfl, rfl, rfl⟩) (Or.inr ⟨_, rfl⟩) (by decide) rfl (by omega) (by omega) ?_
  refine pw_aload_n 0 rfl dX7_init_22 rfl ?_
  refine pw_sipush dX7_init_23 (by decide) ?_
  refine pw_newI (L := 1024) rfl dX7_init_26 kw_118 (by decide) (by decide) (by decide) (by omega) (by omega) (by simp [lvA, lput, lput2, nrf, wct, isl]) (by simp [lvA, lput, lput2, nrf, wct, isl]) ?_
  refine pw_putR 2 dX7_init_28 cOk7 ⟨by omega, by omega, by decide⟩ (by decide) kw_557 (Or.inr ⟨rfl, rfl, rfl⟩) (Or.inr ⟨_, rfl⟩) (by decide) rfl (by omega) (by omega) ?_
  refine pw_aload_n 0 rfl dX7_init_31 rfl ?_
  refine pw_sipush dX7_init_32 (by decide) ?_
  refine pw_newI (L := 1024) rfl dX7_init_35 kw_118 (by decide) (by decide) (by decide) (by omega) (by omega) (by simp [lvA, lput, lput2, nrf, wct, isl]) (by simp [lvA, lput, lput2, nrf, wct, isl]) ?_
  refine pw_putR 3 dX7_init_37 cOk7 ⟨by omega, by omega, by decide⟩ (by decide) kw_559 (Or.inr ⟨rfl, rfl, rfl⟩) (Or.inr ⟨_, rfl⟩) (by decide) rfl (by omega) (by omega) ?_
  refine pw_aload_n 0 rfl dX7_init_40 rfl ?_
  refine pw_sipush dX7_init_41 (by decide) ?_
  refine pw_newI (L := 1024) rfl dX7_init_44 kw_118 (by decide) (by decide) (by decide) (by omega) (by omega) (by simp [lvA, lput, lput2, nrf, wct, isl]) (by simp [lvA, lput, lput2, nrf, wct, isl]) ?_
  refine pw_putR 4 dX7_init_46 cOk7 ⟨by omega, by omega, by decide⟩ (by decide) kw_560 (Or.inr ⟨rfl, rfl, rfl⟩) (Or.inr ⟨_, rfl⟩) (by decide) rfl (by omega) (by omega) ?_
  refine pw_aload_n 0 rfl dX7_init_49 rfl ?_
  refine pw_sipush dX7_init_50 (by decide) ?_
  refine pw_newI (L := 1024) rfl dX7_init_53 kw_118 (by decide) (by decide) (by decide) (by omega) (by omega) (by simp [lvA, lput, lput2, nrf, wct, isl]) (by simp [lvA, lput, lput2, nrf, wct, isl]) ?_
  refine pw_putR 5 dX7_init_55 cOk7 ⟨by omega, by omega, by decide⟩ (by decide) kw_561 (Or.inr ⟨rfl, rfl, rfl⟩) (Or.inr ⟨_, rfl⟩) (by decide) rfl (by omega) (by omega) ?_
  refine pw_aload_n 0 rfl dX7_init_58 rfl ?_
  refine pw_sipush dX7_init_59 (by decide) ?_
  refine pw_newI (L := 1024) rfl dX7_init_62 kw_118 (by decide) (by decide) (by decide) (by omega) (by omega) (by simp [lvA, lput, lput2, nrf, wct, isl]) (by simp [lvA, lput, lput2, nrf, wct, isl]) ?_
  refine pw_putR 6 dX7_init_64 cOk7 ⟨by omega, by omega, by decide⟩ (by decide) kw_563 (Or.inr ⟨rfl, rfl, rfl⟩) (Or.inr ⟨_, rfl⟩) (by decide) rfl (by omega) (by omega) ?_
  refine pw_aload_n 0 rfl dX7_init_67 rfl ?_
  refine pw_new dX7_init_68 cOk6 kw_537 kw_538 kw_85 (by decide) (by omega) (by omega) (by simp [lvA, lput, lput2, nrf, wct, isl]) (by simp [lvA, lput, lput2, nrf, wct, isl]) ?_
  refine pw_dup dX7_init_71 rfl ?_
  refine pw_callI (d' := d - 1) (As := []) dX7_init_72 ok_X6_init (Or.inr ⟨_, kw_539⟩) (by omega) (by omega) rfl (Nat.le_of_ble_eq_true rfl) (i_roads (d - 1) (by omega) _ _) (by omega) (Or.inr ⟨(by simp [lvA, lput, lput2, nrf, wct, isl]), (by simp [lvA, lput, lput2, nrf, wct, isl])⟩) (fun r ok1 mem1 hq => ?_)
  obtain ⟨rfl, hq1, hq2⟩ := hq
  refine pw_putR 7 dX7_init_75 cOk7 ⟨by omega, by omega, by decide⟩ (by decide) kw_564 (Or.inr ⟨rfl, rfl, rfl⟩) (Or.inl ⟨_, rfl⟩) (by decide) rfl (by omega) (by omega) ?_
  refine pw_okc (okF _ 123) (okE_F (ci := 7) (by decide) (fun k k1 k2 => ?_)) ?_
  · have hk2 : k = 0 ∨ k = 1 ∨ k = 2 ∨ k = 3 ∨ k = 4 ∨ k = 5 ∨ k = 6 ∨ k = 7 := by revert k; decide +kernel
    rcases hk2 with e | e | e | e | e | e | e | e <;> (subst e; (try rw [okS_i _ _ (by omega), (hq1 123 (by omega)).1]); simp [okS, okZ])
  refine pw_aload_n 0 rfl dX7_init_78 rfl ?_
  refine pw_aload_n 1 rfl dX7_init_79 rfl ?_
  refine pw_pV 8 8 rfl dX7_init_80 cOk7 ⟨⟨by omega, by omega, by decide⟩, fun k => okF_s _ _ _⟩ (by decide) kw_565 rfl (Or.inl ⟨_, rfl⟩) (by decide) (by omega) (by omega) (by omega) ?_
  refine pw_aload_n 0 rfl dX7_init_83 rfl ?_
  refine pw_iconst dX7_init_84 ?_
  refine pw_pI 9 9 rfl dX7_init_85 cOk7 ⟨⟨by omega, by omega, by decide⟩, fun k => okF_s _ _ _⟩ (by decide) kw_566 rfl rfl (by decide) (by omega) ?_
  refine pw_vret dX7_init_88 rfl rfl ?_
  refine ⟨rfl, fun a ha => ⟨?_, ?_⟩, fun k => ⟨okF_s _ _ _, ?_⟩⟩
  · rw [okF_n _ (by omega), okS_o _ _ (by omega), (hq1 a (by omega)).1]; simp (disch := omega) only [okZ_o, okS_o]
  · rw [wr_a _ _ _ (by omega), wr_a _ _ _ (by omega), (hq1 a (by omega)).2]; simp (disch := omega) only [zr_a]
  · rw [okF_n _ (by omega), okS_o _ _ (by omega)]; exact hq2 k
theorem Of_up {n n' : Nat} {ok ok' : pO} {ci a : Nat} (h : Of n ok ci a) (hn : n ≤ n') (e : ok' a = ok a) : Of n' ok' ci a := ⟨⟨h.1.1, Nat.le_trans h.1.2.1 hn, h.1.2.2⟩, fun k => by rw [e]; exact h.2 k⟩
theorem Ar_up {n n' a L : Nat} (h : Ar n a L) (hn : n ≤ n') : Ar n' a L := ⟨h.1, Nat.le_trans h.2.1 hn, h.2.2⟩
theorem Az_up {n n' a L : Nat} (h : Az n a L) (hn : n ≤ n') : Az n' a L := ⟨h.1, Nat.le_trans h.2.1 hn, h.2.2⟩
theorem ChUp_up {n n' : Nat} {ok ok' : pO} {b : Nat} (h : ChUp n ok b) (hn : n ≤ n') (e : ∀ a, a ≤ 122 → ok' a = ok a) : ChUp n' ok' b := by
  obtain ⟨hC0, ⟨hC1, hC2, hC3, hC4, hC5, hC6, hC7⟩, hC8, ⟨hC9, hC10, hC11, hC12, hC13, hC14, hC15⟩, hC16, hC17, hb5, hb59⟩ := h
  exact ⟨Of_up hC0 hn (e _ (by omega)), ⟨Ar_up hC1 hn, Ar_up hC2 hn, Ar_up hC3 hn, Ar_up hC4 hn, Ar_up hC5 hn, Ar_up hC6 hn, Ar_up hC7 hn⟩, Of_up hC8 hn (e _ (by omega)), ⟨Ar_up hC9 hn, Ar_up hC10 hn, Ar_up hC11 hn, Ar_up hC12 hn, Ar_up hC13 hn, Ar_up hC14 hn, Ar_up hC15 hn⟩, Of_up hC16 hn (e _ (by omega)), Ar_up hC17 hn, hb5, hb59⟩
theorem ClUp_up {n : Nat} {ok ok' : pO} (h : ClUp n ok) (hn : n ≤ 133) (e : ∀ a, a ≤ 122 → ok' a = ok a) (e1 : ∀ k, ok' 123 k = true) (e2 : ∀ k, ok' 131 k = true) : ClUp 133 ok' := by
  obtain ⟨hP9, hN, ⟨hn4, ho0, ho1, ho2⟩, hCh, hDr, hM, ⟨hW80, hW82, hW84⟩, q86, q87, hSU, hn133⟩ := h
  have e4 := e 4 (by omega)
  have w : ∀ x, WUp n ok x → x ≤ 84 → WUp 133 ok' x := fun x hx h4 => ⟨Of_up hx.1 hn (e _ (by omega)), Ar_up hx.2.1 hn, hx.2.2⟩
  refine ⟨Of_up hP9 hn (e _ (by omega)), ⟨Of_up hN.1 hn (e _ (by omega)), Ar_up hN.2 hn⟩, ⟨by omega, by rw [e4]; exact ho0, by rw [e4]; exact ho1, by rw [e4]; exact ho2⟩, fun b hb => ChUp_up (hCh b hb) hn e, Of_up hDr hn (e _ (by omega)), ⟨Of_up hM.1 hn (e _ (by omega)), Az_up hM.2 hn⟩, ⟨w _ hW80 (by omega), w _ hW82 (by omega), w _ hW84 (by omega)⟩, Ar_up q86 hn, Ar_up q87 hn, fun _ => ?_, by omega⟩
  have ar : ∀ a L, a ≤ 133 → 1 ≤ a → ck a = 1 → ln a = L → L < 2147483648 → Ar 133 a L := fun a L a1 a2 a3 a4 a5 => ⟨a2, a1, a3, a4, a5⟩
  exact ⟨⟨⟨by omega, by omega, by decide⟩, e1⟩, ⟨ar _ _ (by omega) (by omega) (by decide) (by decide) (by omega), ar _ _ (by omega) (by omega) (by decide) (by decide) (by omega), ar _ _ (by omega) (by omega) (by decide) (by decide) (by omega), ar _ _ (by omega) (by omega) (by decide) (by decide) (by omega), ar _ _ (by omega) (by omega) (by decide) (by decide) (by omega), ar _ _ (by omega) (by omega) (by decide) (by decide) (by omega), ar _ _ (by omega) (by omega) (by decide) (by decide) (by omega)⟩, ⟨⟨by omega, by omega, by decide⟩, e2⟩, ar _ _ (by omega) (by omega) (by decide) (by decide) (by omega), ar _ _ (by omega) (by omega) (by decide) (by decide) (by omega)⟩
theorem RefUp_up {n : Nat} {ok ok' : pO} (h : RefUp n ok) (hn : n ≤ 133) (e : ∀ a, a ≤ 122 → ok' a = ok a) : RefUp 133 ok' := by
  obtain ⟨hO, ⟨a89, a90, a91, a92, a93, a94, a95, a96, a97, a98⟩, ⟨a99, a100, a101, a102, a103, a104, a105, a106, a107⟩, ⟨a108, a109, a110, a111, a112, a113, a114, a115, a116, a117, a118, a119⟩, a120, a121, a122⟩ := h
  exact ⟨Of_up hO hn (e _ (by omega)), ⟨Ar_up a89 hn, Ar_up a90 hn, Ar_up a91 hn, Ar_up a92 hn, Ar_up a93 hn, Ar_up a94 hn, Ar_up a95 hn, Ar_up a96 hn, Ar_up a97 hn, Ar_up a98 hn⟩, ⟨Ar_up a99 hn, Ar_up a100 hn, Ar_up a101 hn, Ar_up a102 hn, Ar_up a103 hn, Ar_up a104 hn, Ar_up a105 hn, Ar_up a106 hn, Ar_up a107 hn⟩, ⟨Ar_up a108 hn, Ar_up a109 hn, Ar_up a110 hn, Az_up a111 hn, Ar_up a112 hn, Ar_up a113 hn, Ar_up a114 hn, Ar_up a115 hn, Ar_up a116 hn, Ar_up a117 hn, Ar_up a118 hn, Az_up a119 hn⟩, Ar_up a120 hn, Ar_up a121 hn, Ar_up a122 hn⟩
set_option maxHeartbeats 4000000 in
set_option maxRecDepth 100000 in
theorem p_sU0 (d : Nat) (hd : 3 ≤ d) (ok : pO) (mem : pM) (hU : ClUp 122 ok) (h10 : mem 1 10 = ((0 : Nat) : Int)) : PM mi_X9_searchToUse d [vr 1] 122 ok mem 133 (fun r ok' mem' => r = some (vr 123) ∧ (∀ a, a ≤ 122 → ok' a = ok a) ∧ ClUp 133 ok' ∧ mem' 1 10 = 123 ∧ (∀ a, a ≠ 1 → a ≤ 122 → mem' a = mem a) ∧ ∀ k, k ≠ 10 → mem' 1 k = mem 1 k) := by
  obtain ⟨hP9, hN, ⟨hn4, ho0, ho1, ho2⟩, hCh, hDr, hM, ⟨hW80, hW82, hW84⟩, q86, q87, hSU, hn133⟩ := id hU
  refine PM.of (by decide) (by decide) (by omega) (Nat.le_of_ble_eq_true rfl) ?_
  refine pw_aload_n 0 rfl dX9_searchToUse_0 rfl ?_
  refine pw_gV 10 10 0 rfl dX9_searchToUse_1 cOk9 (by assumption) (by decide) kw_357 (by decide) h10 ?_
  refine pw_ifnonnull_f dX9_searchToUse_4 ?_
  refine pw_aload_n 0 rfl dX9_searchToUse_7 rfl ?_
  refine pw_new dX9_searchToUse_8 cOk7 kw_531 kw_532 kw_84 (by decide) (by omega) (by omega) (by simp [lvA, lput, lput2, nrf, wct, isl]) (by simp [lvA, lput, lput2, nrf, wct, isl]) ?_
  refine pw_dup dX9_searchToUse_11 rfl ?_
  refine pw_aload_n 0 rfl dX9_searchToUse_12 rfl ?_
  refine pw_gR 2 59 dX9_searchToUse_13 cOk9 ⟨⟨by omega, by omega, by decide⟩, fun k => by rw [okZ_o _ (by omega)]; exact hP9.2 k⟩ (by decide) kw_349 (by decide) rfl ?_
  refine pw_callI (d' := d - 1) (As := [_]) dX9_searchToUse_16 ok_X7_init (Or.inl kw_533) (by omega) (by omega) rfl (Nat.le_of_ble_eq_true rfl) (i_search (d - 1) (by omega) _ _) (by omega) (Or.inr ⟨(by simp [lvA, lput, lput2, nrf, wct, isl]), (by simp [lvA, lput, lput2, nrf, wct, isl])⟩) (fun r ok1 mem1 hq => ?_)
  obtain ⟨rfl, hq1, hq2⟩ := hq
  refine pw_pV 10 10 rfl dX9_searchToUse_19 cOk9 ⟨⟨by omega, by omega, by decide⟩, fun k => by rw [(hq1 1 (by omega)).1, okZ_o _ (by omega)]; exact hP9.2 k⟩ (by decide) kw_357 rfl (Or.inl ⟨_, rfl⟩) (by decide) (by omega) (by omega) (by omega) ?_
  refine pw_aload_n 0 rfl dX9_searchToUse_22 rfl ?_
  refine pw_gV 10 10 123 rfl dX9_searchToUse_23 cOk9 ⟨⟨by omega, by omega, by decide⟩, fun k => by rw [(hq1 1 (by omega)).1, okZ_o _ (by omega)]; exact hP9.2 k⟩ (by decide) kw_357 (by decide) (wr_s _ _ _ _) ?_
  refine pw_aret dX9_searchToUse_26 rfl rfl ?_
  have hoo : ∀ a, a ≤ 122 → ok1 a = ok a := fun a ha => by rw [(hq1 a ha).1, okZ_o _ (by omega)]
  refine ⟨rfl, hoo, ClUp_up hU (by omega) hoo (fun k => (hq2 k).1) (fun k => (hq2 k).2), wr_s _ _ _ _, fun a a1 a2 => ?_, fun k hk => ?_⟩
  · rw [wr_a _ _ _ a1, (hq1 a a2).2, zr_a _ (by omega)]
  · rw [wr_k _ _ _ _ hk, (hq1 1 (by omega)).2, zr_a _ (by omega)]
set_option maxHeartbeats 4000000 in
set_option maxRecDepth 100000 in
theorem p_sU1 (d : Nat) (hd : 3 ≤ d) (ok : pO) (mem : pM) (hU : ClUp 133 ok) (h10 : mem 1 10 = ((123 : Nat) : Int)) : PM mi_X9_searchToUse d [vr 1] 133 ok mem 133 (fun r ok' mem' => r = some (vr 123) ∧ (∀ a, a ≤ 122 → ok' a = ok a) ∧ ClUp 133 ok' ∧ mem' 1 10 = 123 ∧ (∀ a, a ≠ 1 → a ≤ 122 → mem' a = mem a) ∧ ∀ k, k ≠ 10 → mem' 1 k = mem 1 k) := by
  obtain ⟨hP9, hN, ⟨hn4, ho0, ho1, ho2⟩, hCh, hDr, hM, ⟨hW80, hW82, hW84⟩, q86, q87, hSU, hn133⟩ := id hU
  refine PM.of (by decide) (by decide) (by omega) (Nat.le_of_ble_eq_true rfl) ?_
  refine pw_aload_n 0 rfl dX9_searchToUse_0 rfl ?_
  refine pw_gV 10 10 123 rfl dX9_searchToUse_1 cOk9 (by assumption) (by decide) kw_357 (by decide) h10 ?_
  refine pw_ifnonnull_t 22 (by decide) (by omega) dX9_searchToUse_4 ?_
  refine pw_aload_n 0 rfl dX9_searchToUse_22 rfl ?_
  refine pw_gV 10 10 123 rfl dX9_searchToUse_23 cOk9 (by assumption) (by decide) kw_357 (by decide) h10 ?_
  refine pw_aret dX9_searchToUse_26 rfl rfl ?_
  exact ⟨rfl, fun _ _ => rfl, hU, by omega, fun _ _ _ => rfl, fun _ _ => rfl⟩
theorem p_searchToUse (d : Nat) (hd : 3 ≤ d) (n : Nat) (ok : pO) (mem : pM) (hU : ClUp n ok) (A : pM) (hG : RG A mem n) : PM mi_X9_searchToUse d [vr 1] n ok mem 133 (fun r ok' mem' => r = some (vr 123) ∧ (∀ a, a ≤ 122 → ok' a = ok a) ∧ ClUp 133 ok' ∧ mem' 1 10 = 123 ∧ (∀ a, a ≠ 1 → a ≤ 122 → mem' a = mem a) ∧ ∀ k, k ≠ 10 → mem' 1 k = mem 1 k) := by
  rcases hG.2.2.2.2.2.2.2 with z | z
  · obtain ⟨z1, z2, -⟩ := z
    subst z2
    exact p_sU0 d hd ok mem hU (by omega)
  · obtain ⟨z1, z2, -⟩ := z
    subst z2
    exact p_sU1 d hd ok mem hU (by omega)
