/-! ===== the class's own methods: what is told with the trace emptied; back ===== -/
theorem RG_z {A m : pM} {n : Nat} (h : RG A m n) (hI : IOk A) (hK : KOk A) (z : Int) : RG (wr A 88 23 z) m n := RG_A h ⟨fun a _ _ => wr_a _ _ _ (by omega), wr_a _ _ _ (by omega), fun a _ _ => wr_a _ _ _ (by omega), wr_a _ _ _ (by omega), wr_a _ _ _ (by omega), fun k _ q _ _ => wr_k _ _ _ _ q⟩ hI hK
theorem RE_ev (m : pM) (l : pEv) : RE m (nEv m l) := fun a a1 a2 => nEv_a _ _ _ (by omega) (by omega)
theorem RE_w {m m1 : pM} (h : RE m m1) (x : Int) : RE m (wr m1 1 16 x) := fun a a1 a2 => by rw [wr_a _ _ _ (by omega)]; exact h a a1 a2
theorem RI_tell {A : pM} (h : RI A) (h0 : A 88 19 = 0) (c s : Int) : RI (rTell A c s).2 := by
  unfold rTell
  (repeat' split) <;> first | exact RI_ref h _ | exact RI_met h _ | skip
  have e : rWr A (tW (A 90 (16 * c + s))) = rEv A (evW (tW (A 90 (16 * c + s)))) := (rEv_W _ _).symm
  rw [e]
  refine RI_say (RI_ev h _ ?_) _
  have := tW_len (A 90 (16 * c + s))
  unfold evW; rw [List.length_map]; omega
theorem RI_holds {A : pM} (h : RI A) (c k : Int) : RI (rHolds A c k 0).2 := by
  have h3 := h.2.2.2.1
  have e : wr A 88 3 0 = A := by funext a j; unfold wr; by_cases q : a = 88 ∧ j = 3 <;> simp [q, h3]
  unfold rHolds; rw [e]
  (repeat' split) <;> first | exact RI_ref h _ | exact RI_met (RI_z h _) _ | exact RI_say (RI_z h _) _
theorem RI_may {A : pM} (h : RI A) (h0 : A 88 19 = 0) (c v z : Int) : RI (rMay A c v z).2 := by
  unfold rMay; split
  · exact RI_ref h _
  · split
    · exact RI_ref h _
    · have := iEv_len (aAt A c) v (h.1 c (by omega) (by omega)).ok.1.1
      exact RI_say (RI_z (RI_ev h _ (by omega)) _) _
theorem RI_barred {A : pM} (h : RI A) (h0 : A 88 19 = 0) (c v z : Int) : RI (rBarred A c v z).2 := by
  unfold rBarred; split
  · exact RI_ref h _
  · split
    · exact RI_ref h _
    · have := bRes_ran (aAt A c) v (h.1 c (by omega) (by omega)).ok.1.1
      split
      · exact RI_met (RI_z (RI_ev h _ (by omega)) _) _
      · exact RI_say (RI_z (RI_ev h _ (by omega)) _) _
theorem RI_isOpen {A : pM} (h : RI A) (h0 : A 88 19 = 0) (c z : Int) : RI (rIsOpen A c z).2 := by
  unfold rIsOpen; split
  · exact RI_ref h _
  · have := oEv_len (aAt A c) (h.1 c (by omega) (by omega)).ok.1.1
    exact RI_say (RI_z (RI_ev h _ (by omega)) _) _
theorem RI_pop {A : pM} (h : RI A) {c : Int} (hc : 0 ≤ c ∧ c ≤ 2) (h0 : A 101 c ≠ 0) : RI (wr A 101 c (A 101 c - 1)) := by
  have g := h.2.1 c hc.1 hc.2
  refine RI_c h (IOk_c h.1 (fun a a1 a2 => by simp (disch := omega) only [wr_a])) (fun c' c1 c2 => ?_) (by rw [wr_a _ _ _ (by omega)]; exact h.2.2.1) (by rw [wr_a _ _ _ (by omega)]; exact h.2.2.2.1) (by unfold RIt; simp (disch := omega) only [wr_a]; exact h.2.2.2.2.1) (by unfold RIm; simp (disch := omega) only [wr_a]; exact h.2.2.2.2.2.2.2.2) (fun a a1 a2 => by simp (disch := omega) only [wr_a]) (fun k _ _ _ => by simp (disch := omega) only [wr_a]) (fun _ z => ⟨by rw [wr_a _ _ _ (by omega)] at z; exact z, chEq.of (fun a a1 a2 _ => by simp (disch := omega) only [wr_a])⟩)
  rw [wr_a _ _ _ (show (102 : Nat) ≠ 101 by omega)]
  by_cases q : c' = c
  · rw [q, wr_s]; exact ⟨by omega, by omega, fun j j1 j2 => g.2.2 j j1 (by omega)⟩
  · rw [wr_k _ _ _ _ q]; exact h.2.1 c' c1 c2
theorem RI_back {A : pM} (h : RI A) (c : Int) : RI (rBack A c).2 := by
  unfold rBack; split
  · exact RI_ref h _
  · split
    · exact RI_ref h _
    · exact RI_say (RI_set (RI_pop h (c := c) (by omega) (by omega)) (by omega) _) _
theorem RG_pop {A m : pM} {n : Nat} {c : Int} {b : Nat} (h : RG A m n) (hR : RI A) (hc : 0 ≤ c ∧ c ≤ 2) (hb : (b : Int) = 5 + 18 * c) (h0 : A 101 c ≠ 0) : RG (wr A 101 c (A 101 c - 1)) (kpO m b) n ∧ m (b + 17) (kpB (m (b + 16) 1)) = A 102 (30 * c + (A 101 c - 1)) := by
  obtain ⟨q1, q2, q3, q4⟩ := h.2.1 c b hc.1 hc.2 hb
  have g := hR.2.1 c hc.1 hc.2
  have em : ∀ a, a ≠ b + 16 → kpO m b a = m a := fun a q => by unfold kpO; rw [wr_a _ _ _ q, wr_a _ _ _ q]
  have ek : kpB (m (b + 16) 1) = (m (b + 16) 1 + 29) % 30 := by have := q4.2.1; unfold kpB; split <;> omega
  have e1 : kpO m b (b + 16) 1 = kpB (m (b + 16) 1) := by unfold kpO; rw [wr_s]
  have e2 : kpO m b (b + 16) 2 = m (b + 16) 2 - 1 := by unfold kpO; rw [wr_k _ _ _ _ (by omega), wr_s]
  have kr := q4.2.2
  constructor
  · refine RG_one h hR.1 hR.2.1 hc.1 hc.2 hb ?_ (fun c' _ _ q => ⟨fun r _ _ => by simp (disch := omega) only [wr_a], fun a a1 a2 s _ _ => by simp (disch := omega) only [wr_a], by simp (disch := omega) only [wr_a], fun a a1 a2 s _ _ => by simp (disch := omega) only [wr_a], fun j _ _ => by simp (disch := omega) only [wr_a], by simp (disch := omega) only [wr_a], by simp (disch := omega) only [wr_a], by rw [wr_k _ _ _ _ q], fun i _ _ => by simp (disch := omega) only [wr_a]⟩) (fun a a1 a2 _ _ _ => by simp (disch := omega) only [wr_a]) (fun j _ _ _ _ => by simp (disch := omega) only [wr_a]) (fun a _ ha => em a (by omega))
    refine ⟨CS_t (hR.1 c hc.1 hc.2) (q1.m (fun a a1 a2 _ _ => em a (by omega))) (chEq.of (fun a a1 a2 _ => by simp (disch := omega) only [wr_a])), CV_t (q2.m (em _ (by omega))) (fun s s1 s2 => ⟨by simp (disch := omega) only [wr_a], fun _ => by show wr A 101 _ _ 92 _ = A 92 _; rw [wr_a _ _ _ (by omega)]⟩), by rw [em b (by omega), wr_a _ _ _ (by omega), wr_a _ _ _ (by omega)]; exact q3, ?_⟩
    refine ⟨by rw [e2, wr_s, q4.1], by rw [e1, ek]; omega, fun i i1 i2 => ?_⟩
    rw [wr_s] at i2
    rw [wr_s, e1, ek, em _ (by omega), wr_a _ _ _ (by omega), ← kr i i1 (by omega)]
    congr 1; omega
  · rw [← kr (A 101 c - 1) (by omega) (by omega), ek]
    congr 1; omega
theorem RG_set {A m m1 : pM} {n : Nat} {c : Int} {b : Nat} (h : RG A m n) (hR : RI A) (hc : 0 ≤ c ∧ c ≤ 2) (hb : (b : Int) = 5 + 18 * c) {x : Int} (hfr : FrW (b + 4) m m1) (hv : CV A c m1 b (setV A c (aAt A c) x)) : RG (rSet A c x 16) m1 n := by
  refine RG_one h hR.1 hR.2.1 hc.1 hc.2 hb ?_ (fun c' _ _ q => chX_v (fun a a1 a2 a3 => rSet_a a3) (fun j hj => rSet_out _ _ _ _ (by omega) j hj) c' q) (fun a a1 a2 _ _ _ => rSet_a (by omega)) (fun j _ _ _ _ => by rw [rSet_a (by omega)]) (fun a _ ha => hfr a (by omega))
  exact RCx_v (h.2.1 c b hc.1 hc.2 hb) (hR.1 c hc.1 hc.2) (hR.2.1 c hc.1 hc.2).2.1 (fun a a1 a2 a3 => rSet_a a3) (fun a a1 a2 a3 a4 => hfr a (by omega)) hv (fun s s1 s2 hk => set_v x s1 s2 hk)
set_option maxHeartbeats 4000000 in
set_option maxRecDepth 100000 in
theorem p_tell (d : Nat) (hd : 2 ≤ d) (n : Nat) (ok : pO) (mem : pM) (hU : ClUp n ok) (hG : RG mem mem n) (hRI : RI mem) (c s : Int) (hc : -2147483648 ≤ c ∧ c ≤ 2147483647) (hs : -2147483648 ≤ s ∧ s ≤ 2147483647)  : PM mi_X9_tell d [vr 1, vi c, vi s] n ok mem n (fun r ok' mem' => r = some (vi (rTell (wr mem 88 19 0) c s).1) ∧ ok = ok' ∧ RE mem mem' ∧ RG (rTell (wr mem 88 19 0) c s).2 mem' n) := by
  obtain ⟨hP9, hN, ⟨hn4, ho0, ho1, ho2⟩, hCh, hDr, hM, ⟨hW80, hW82, hW84⟩, q86, q87, hSU, hn133⟩ := id hU
  obtain ⟨hN5, hN3⟩ := id hN
  obtain ⟨hM4, hM9⟩ := id hM
  obtain ⟨hW8, hWA, -, -⟩ := id hW80
  have hIO := hRI.1
  have hKO := hRI.2.1
  have ht9 := hRI.2.2.1
  have hq0 := hRI.2.2.2.1
  have hty := hRI.2.2.2.2.1
  have hNR := hG.1
  have hNR1 : mem 2 1 = mem 88 19 := hNR.1
  refine PM.of (by decide) (by decide) (Nat.le_refl _) (Nat.le_of_ble_eq_true rfl) ?_
  refine pw_aload_n 0 rfl dX9_tell_0 rfl ?_
  refine pw_gR 0 2 dX9_tell_1 cOk9 (by assumption) (by decide) kw_347 (by decide) rfl ?_
  refine pw_callV (d' := d - 1) (As := []) (ci := 5) dX9_tell_4 ok_X5_emptyTrace kw_743 rfl rfl (Of.o (by assumption)) (by omega) rfl (Nat.le_of_ble_eq_true rfl) (n_emptyTrace (d - 1) (by omega) n ok mem hN) (Nat.le_refl _) (Or.inl rfl) (fun r ok1 m0 hq => ?_)
  obtain ⟨rfl, rfl, hm0⟩ := hq
  have hG0 : RG (wr mem 88 19 0) m0 n := by rw [← hm0]; exact RG_t0 hG hIO hKO
  have hRI0 := RI_t0 hRI
  have hRE0 : RE mem m0 := fun a a1 a2 => by rw [← hm0, wr_a _ _ _ (by omega)]
  have ht1 : m0 2 1 = 0 := by rw [← hm0, wr_s]
  have hA19 : wr mem 88 19 0 88 19 = 0 := wr_s _ _ _ _
  generalize hA0 : wr mem 88 19 0 = A0 at hG0 hRI0 hA19 ⊢
  clear hG hRI hIO hKO ht9 hq0 hty hNR hNR1
  have hG := hG0
  have hRI := hRI0
  have hIO := hRI0.1
  have hKO := hRI0.2.1
  have hty := hRI0.2.2.2.2.1
  refine pw_aload_n 0 rfl dX9_tell_7 rfl ?_
  refine pw_iload_n 1 rfl dX9_tell_8 rfl ?_
  refine pw_iload_n 2 rfl dX9_tell_9 rfl ?_
  refine pw_callV (d' := d - 1) (As := [_, _]) (ci := 9) dX9_tell_10 ok_X9_refusalOfPart kw_453 rfl rfl (Of.o (by assumption)) (by omega) rfl (Nat.le_of_ble_eq_true rfl) (p_refusalOfPart (d - 1) (by omega) n ok m0 hU A0 hG hRI c s (by omega) (by omega)) (Nat.le_refl _) (Or.inl rfl) (fun r ok1 m1 hq => ?_)
  obtain ⟨rfl, hrp⟩ := hq
  obtain ⟨x, rfl, hxr, hrs⟩ := rp_split hrp
  clear hrp
  refine pw_istore_n 3 rfl dX9_tell_13 (by decide) ?_
  refine pw_iload_n 3 rfl dX9_tell_14 rfl ?_
  refine pw_if_eq 24 (by decide) dX9_tell_15 (by omega) (fun c15 => ?_) (fun c15 => ?_)
  · skip
    have hz : x = 0 ∧ (0 ≤ c ∧ c ≤ 2) ∧ (0 ≤ s ∧ s ≤ 15) ∧ aComes A0 c s = 0 ∧ m0 = m1 := by
      rcases hrs with z | z
      · exact z
      · exact absurd c15 z.1
    obtain ⟨hx0, hc2, hs2, hcz, hm1⟩ := hz
    subst hm1
    obtain ⟨b, hbc⟩ : ∃ b : Nat, (b : Int) = 5 + 18 * c := ⟨(5 + 18 * c).toNat, by omega⟩
    have hC : ChUp n ok b := hCh b (by omega)
    have hok : ok 4 (c).toNat = true := by rcases (show c = 0 ∨ c = 1 ∨ c = 2 by omega) with e | e | e <;> (rw [e]; assumption)
    obtain ⟨hS, hV, hJ, hKR⟩ := hG.2.1 c b (by omega) (by omega) hbc
    have hI := hIO c (by omega) (by omega)
    have hOk := hI.ok
    obtain ⟨hR, hD, hSo⟩ := id hS
    obtain ⟨hC0, ⟨hC1, hC2, hC3, hC4, hC5, hC6, hC7⟩, hC8, ⟨hC9, hC10, hC11, hC12, hC13, hC14, hC15⟩, hC16, hC17, hb5, hb59⟩ := id hC
    have hkn := aComes_kind hcz
    have e2 : m0 (b + 2) s = A0 90 (16 * c + s) := (hR.2.1 s hs2.1 hs2.2).1
    have e3 : m0 (b + 3) s = A0 91 (16 * c + s) := by rw [(hR.2.1 s hs2.1 hs2.2).2.1]; unfold eSp; rw [if_neg hkn]
    have e4 : m0 (b + 4) s = A0 92 (16 * c + s) := by rw [hV s hs2.1 hs2.2]; unfold eAv; rw [if_neg hkn]
    have e5 : m0 (b + 5) s = A0 93 (16 * c + s) := (hR.2.1 s hs2.1 hs2.2).2.2 hkn
    have hk5 := hI.2.1 s hs2.1 hs2.2
    refine pw_aload_n 0 rfl dX9_tell_24 rfl ?_
    refine pw_gR 1 4 dX9_tell_25 cOk9 (by assumption) (by decide) kw_348 (by decide) rfl ?_
    refine pw_iload_n 1 rfl dX9_tell_28 rfl ?_
    refine pw_aaload (L := 3) dX9_tell_29 (by omega) (by omega) rfl rfl (by decide) (by omega) (by omega) b hbc hok ?_
    refine pw_astore dX9_tell_30 (by decide) ?_
    refine pw_aload dX9_tell_32 rfl ?_
    refine pw_gR 2 (b + 2) dX9_tell_34 cOk0 (by assumption) (by decide) kw_233 (by decide) rfl ?_
    refine pw_iload_n 2 rfl dX9_tell_37 rfl ?_
    refine pw_iaload dX9_tell_38 (by assumption) (by omega) (by omega) (fun r38 => ?_)
    rw [e2] at r38 ⊢
    refine pw_iconst dX9_tell_39 ?_
    refine pw_icmp_ne 56 (by decide) dX9_tell_40 (by omega) (by omega) (fun c40 => ?_) (fun c40 => ?_)
    · skip
      refine pw_aload_n 0 rfl dX9_tell_56 rfl ?_
      refine pw_gR 0 2 dX9_tell_57 cOk9 (by assumption) (by decide) kw_347 (by decide) rfl ?_
      refine pw_aload dX9_tell_60 rfl ?_
      refine pw_gR 2 (b + 2) dX9_tell_62 cOk0 (by assumption) (by decide) kw_233 (by decide) rfl ?_
      refine pw_iload_n 2 rfl dX9_tell_65 rfl ?_
      refine pw_iaload dX9_tell_66 (by assumption) (by omega) (by omega) (fun r66 => ?_)
      rw [e2] at r66 ⊢
      refine pw_callV (d' := d - 1) (As := [_]) (ci := 5) dX9_tell_67 ok_X5_writeTelling kw_747 rfl rfl (Of.o (by assumption)) (by omega) rfl (Nat.le_of_ble_eq_true rfl) (n_writeTelling (d - 1) (by omega) n ok m0 hN _ (by simp only [aKind] at hkn; omega) (by omega)) (Nat.le_refl _) (Or.inl rfl) (fun r ok1 mem1 hq => ?_)
      obtain ⟨rfl, rfl, rfl⟩ := hq
      refine pw_aload_n 0 rfl dX9_tell_70 rfl ?_
      refine pw_aload dX9_tell_71 rfl ?_
      refine pw_gR 2 (b + 2) dX9_tell_73 cOk0 (by assumption) (by decide) kw_233 (by decide) rfl ?_
      refine pw_iload_n 2 rfl dX9_tell_76 rfl ?_
      refine pw_iaload dX9_tell_77 (by assumption) (by omega) (by omega) (fun r77 => ?_)
      rw [nEv_a _ _ _ (by omega) (by omega), e2] at r77 ⊢
      refine pw_aload dX9_tell_78 rfl ?_
      refine pw_gR 3 (b + 3) dX9_tell_80 cOk0 (by assumption) (by decide) kw_237 (by decide) rfl ?_
      refine pw_iload_n 2 rfl dX9_tell_83 rfl ?_
      refine pw_iaload dX9_tell_84 (by assumption) (by omega) (by omega) (fun r84 => ?_)
      rw [nEv_a _ _ _ (by omega) (by omega), e3] at r84 ⊢
      refine pw_aload dX9_tell_85 rfl ?_
      refine pw_gR 4 (b + 4) dX9_tell_87 cOk0 (by assumption) (by decide) kw_240 (by decide) rfl ?_
      refine pw_iload_n 2 rfl dX9_tell_90 rfl ?_
      refine pw_iaload dX9_tell_91 (by assumption) (by omega) (by omega) (fun r91 => ?_)
      rw [nEv_a _ _ _ (by omega) (by omega), e4] at r91 ⊢
      refine pw_callS (d' := d - 1) (As := [_, _, _]) dX9_tell_92 ok_X0_numberTold kw_748 (by omega) rfl (Nat.le_of_ble_eq_true rfl) (s_numberTold (d - 1) (by omega) n ok _ _ _ _ (by omega) (by simp only [aKind] at hkn; omega) (by simp only [aKind] at hkn; omega)) (Nat.le_refl _) (Or.inl rfl) (fun r ok1 mem1 hq => ?_)
      obtain ⟨rfl, rfl, rfl⟩ := hq
      refine pw_callV (d' := d - 1) (As := [_]) (ci := 9) dX9_tell_95 ok_X9_answered kw_423 rfl rfl (Of.o (by assumption)) (by omega) rfl (Nat.le_of_ble_eq_true rfl) (p_answered (d - 1) (by omega) n ok _ hP9 _) (Nat.le_refl _) (Or.inl rfl) (fun r ok1 mem1 hq => ?_)
      obtain ⟨rfl, rfl, rfl⟩ := hq
      refine pw_iret dX9_tell_98 rfl rfl ?_
      have e9 : rTell A0 c s = rSay (rWr A0 (tW (A0 90 (16 * c + s)))) (tel (A0 90 (16 * c + s)) (A0 91 (16 * c + s)) (A0 92 (16 * c + s))) := by
        unfold rTell; (repeat' split) <;> first | rfl | (exfalso; omega) | contradiction
      rw [e9, ← rEv_W]
      have s9 := nSame.e A0 (evW (tW (A0 90 (16 * c + s))))
      exact ⟨rfl, rfl, RE_w (RE_2 hRE0 (RE_ev _ _)) _, RG_st (RG_ev hG hIO hKO (by omega) hRI.2.2.2.1 _) (IOk_c hIO (fun a a1 a2 => s9.1 a (by omega) (by omega))) (KOk_c hKO (s9.1 _ (by omega) (by omega)) (s9.1 _ (by omega) (by omega))) _⟩
    · skip
      refine pw_aload_n 0 rfl dX9_tell_43 rfl ?_
      refine pw_aload_n 0 rfl dX9_tell_44 rfl ?_
      refine pw_gR 0 2 dX9_tell_45 cOk9 (by assumption) (by decide) kw_347 (by decide) rfl ?_
      refine pw_iconst dX9_tell_48 ?_
      refine pw_callV (d' := d - 1) (As := [_]) (ci := 5) dX9_tell_49 ok_X5_met kw_410 rfl rfl (Of.o (by assumption)) (by omega) rfl (Nat.le_of_ble_eq_true rfl) (n_met (d - 1) (by omega) n ok m0 hN _ (by omega)) (Nat.le_refl _) (Or.inl rfl) (fun r ok1 mem1 hq => ?_)
      obtain ⟨rfl, rfl, rfl⟩ := hq
      refine pw_callV (d' := d - 1) (As := [_]) (ci := 9) dX9_tell_52 ok_X9_refused kw_406 rfl rfl (Of.o (by assumption)) (by omega) rfl (Nat.le_of_ble_eq_true rfl) (p_refused (d - 1) (by omega) n ok _ hP9 _ (by omega)) (Nat.le_refl _) (Or.inl rfl) (fun r ok1 mem1 hq => ?_)
      obtain ⟨rfl, rfl, rfl⟩ := hq
      refine pw_iret dX9_tell_55 rfl rfl ?_
      have e9 : rTell A0 c s = rMet A0 3 := by
        unfold rTell; (repeat' split) <;> first | rfl | (exfalso; omega) | contradiction
      rw [e9]; exact ⟨rfl, rfl, RE_2 hRE0 (RE_met _ _ _), RG_met hG hRI _⟩
  · skip
    refine pw_aload_n 0 rfl dX9_tell_18 rfl ?_
    refine pw_iload_n 3 rfl dX9_tell_19 rfl ?_
    refine pw_callV (d' := d - 1) (As := [_]) (ci := 9) dX9_tell_20 ok_X9_refused kw_406 rfl rfl (Of.o (by assumption)) (by omega) rfl (Nat.le_of_ble_eq_true rfl) (p_refused (d - 1) (by omega) n ok _ hP9 _ (by omega)) (Nat.le_refl _) (Or.inl rfl) (fun r ok1 mem1 hq => ?_)
    obtain ⟨rfl, rfl, rfl⟩ := hq
    refine pw_iret dX9_tell_23 rfl rfl ?_
    rcases hrs with z | z
    · exact absurd z.1 c15
    · rcases z.2 with y | y | y
      · obtain ⟨y1, y2, y3⟩ := y
        subst y3; subst y2
        have e9 : rTell A0 c s = rRef A0 (-2) := by
          unfold rTell; (repeat' split) <;> first | rfl | (exfalso; omega) | contradiction
        rw [e9]; exact ⟨rfl, rfl, RE_w hRE0 _, RG_st hG hIO hKO _⟩
      · obtain ⟨y1, y2, y3, y4⟩ := y
        subst y4; subst y3
        have e9 : rTell A0 c s = rRef A0 (-3) := by
          unfold rTell; (repeat' split) <;> first | rfl | (exfalso; omega) | contradiction
        rw [e9]; exact ⟨rfl, rfl, RE_w hRE0 _, RG_st hG hIO hKO _⟩
      · obtain ⟨y1, y2, y3, y4, y5⟩ := y
        subst y4
        have e9 : rTell A0 c s = rMet A0 (aComes A0 c s) := by
          unfold rTell; (repeat' split) <;> first | rfl | (exfalso; omega) | contradiction
        rw [e9, ← y5]; exact ⟨rfl, rfl, RE_2 hRE0 (RE_met _ _ _), RG_met hG hRI _⟩
set_option maxHeartbeats 4000000 in
set_option maxRecDepth 100000 in
theorem p_holds (d : Nat) (hd : 2 ≤ d) (n : Nat) (ok : pO) (mem : pM) (hU : ClUp n ok) (hG : RG mem mem n) (hRI : RI mem) (c k : Int) (hc : -2147483648 ≤ c ∧ c ≤ 2147483647) (hk : -2147483648 ≤ k ∧ k ≤ 2147483647)  : PM mi_X9_holds d [vr 1, vi c, vi k] n ok mem n (fun r ok' mem' => r = some (vi (rHolds mem c k 0).1) ∧ ok = ok' ∧ RE mem mem' ∧ RG (rHolds mem c k 0).2 mem' n) := by
  obtain ⟨hP9, hN, ⟨hn4, ho0, ho1, ho2⟩, hCh, hDr, hM, ⟨hW80, hW82, hW84⟩, q86, q87, hSU, hn133⟩ := id hU
  obtain ⟨hN5, hN3⟩ := id hN
  obtain ⟨hM4, hM9⟩ := id hM
  obtain ⟨hW8, hWA, -, -⟩ := id hW80
  have hIO := hRI.1
  have hKO := hRI.2.1
  have ht9 := hRI.2.2.1
  have hq0 := hRI.2.2.2.1
  have hty := hRI.2.2.2.2.1
  have hNR := hG.1
  have hNR1 : mem 2 1 = mem 88 19 := hNR.1
  refine PM.of (by decide) (by decide) (Nat.le_refl _) (Nat.le_of_ble_eq_true rfl) ?_
  refine pw_aload_n 0 rfl dX9_holds_0 rfl ?_
  refine pw_iload_n 1 rfl dX9_holds_1 rfl ?_
  refine pw_iload_n 2 rfl dX9_holds_2 rfl ?_
  refine pw_callV (d' := d - 1) (As := [_, _]) (ci := 9) dX9_holds_3 ok_X9_isCondition kw_477 rfl rfl (Of.o (by assumption)) (by omega) rfl (Nat.le_of_ble_eq_true rfl) (p_isCondition (d - 1) (by omega) n ok _ hU hG hRI _ _ (by omega) (by omega)) (Nat.le_refl _) (Or.inl rfl) (fun r ok1 mem1 hq => ?_)
  obtain ⟨rfl, rfl, rfl⟩ := hq
  refine pw_if_ne 16 (by decide) dX9_holds_6 (by split <;> omega) (fun c6 => ?_) (fun c6 => ?_)
  · skip
    rw [ne_eq, bz_n] at c6
    obtain ⟨b, hbc⟩ : ∃ b : Nat, (b : Int) = 5 + 18 * c := ⟨(5 + 18 * c).toNat, by omega⟩
    have hC : ChUp n ok b := hCh b (by omega)
    have hok : ok 4 (c).toNat = true := by rcases (show c = 0 ∨ c = 1 ∨ c = 2 by omega) with e | e | e <;> (rw [e]; assumption)
    obtain ⟨hS, hV, hJ, hKR⟩ := hG.2.1 c b (by omega) (by omega) hbc
    have hI := hIO c (by omega) (by omega)
    have hOk := hI.ok
    obtain ⟨hR, hD, hSo⟩ := id hS
    obtain ⟨hC0, ⟨hC1, hC2, hC3, hC4, hC5, hC6, hC7⟩, hC8, ⟨hC9, hC10, hC11, hC12, hC13, hC14, hC15⟩, hC16, hC17, hb5, hb59⟩ := id hC
    have hw3 : wr mem 88 3 0 = mem := by funext a j; unfold wr; by_cases q : a = 88 ∧ j = 3 <;> simp [q, hq0]
    have hmr := hMet_ran mem c (aAt mem c) k
    have hi1 := hIs_01 mem c (aAt mem c) k
    refine pw_aload_n 0 rfl dX9_holds_16 rfl ?_
    refine pw_gR 1 4 dX9_holds_17 cOk9 (by assumption) (by decide) kw_348 (by decide) rfl ?_
    refine pw_iload_n 1 rfl dX9_holds_20 rfl ?_
    refine pw_aaload (L := 3) dX9_holds_21 (by omega) (by omega) rfl rfl (by decide) (by omega) (by omega) b hbc hok ?_
    refine pw_iload_n 2 rfl dX9_holds_22 rfl ?_
    refine pw_iconst dX9_holds_23 ?_
    refine pw_callV (d' := d - 1) (As := [_, _]) (ci := 0) dX9_holds_24 ok_X0_judge kw_757 rfl rfl (Of.o (by assumption)) (by omega) rfl (Nat.le_of_ble_eq_true rfl) (h_judgeQ (d - 1) (by omega) n ok mem hN b hC mem c (aAt mem c) hI hS hV hOk.2.1 k (by omega)) (Nat.le_refl _) (Or.inl rfl) (fun r ok1 mem1 hq => ?_)
    obtain ⟨rfl, rfl, rfl⟩ := hq
    have hjc := jRes_c mem c (aAt mem c) k
    refine pw_istore_n 3 rfl dX9_holds_27 (by decide) ?_
    refine pw_iload_n 3 rfl dX9_holds_28 rfl ?_
    refine pw_if_ge 48 (by decide) dX9_holds_29 (by omega) (fun c29 => ?_) (fun c29 => ?_)
    · skip
      have hj : 0 ≤ jRes mem c (aAt mem c) k ∧ hMet mem c (aAt mem c) k = 0 ∧ jRes mem c (aAt mem c) k = hIs mem c (aAt mem c) k := by omega
      refine pw_aload_n 0 rfl dX9_holds_48 rfl ?_
      refine pw_iload_n 3 rfl dX9_holds_49 rfl ?_
      refine pw_callV (d' := d - 1) (As := [_]) (ci := 9) dX9_holds_50 ok_X9_answered kw_423 rfl rfl (Of.o (by assumption)) (by omega) rfl (Nat.le_of_ble_eq_true rfl) (p_answered (d - 1) (by omega) n ok _ hP9 _) (Nat.le_refl _) (Or.inl rfl) (fun r ok1 mem1 hq => ?_)
      obtain ⟨rfl, rfl, rfl⟩ := hq
      refine pw_iret dX9_holds_53 rfl rfl ?_
      have e9 : rHolds mem c k 0 = rSay (wr (wr mem 88 3 0) 88 23 (hMet mem c (aAt mem c) k)) (hIs mem c (aAt mem c) k) := by
        unfold rHolds; rw [if_neg (by omega), if_neg (by omega)]
      have hRz := RI_z hRI (hMet mem c (aAt mem c) k)
      rw [e9, hw3, hj.2.2]
      exact ⟨rfl, rfl, RE1 _ _, RG_st (RG_z hG hIO hKO _) hRz.1 hRz.2.1 _⟩
    · skip
      have hj : jRes mem c (aAt mem c) k < 0 ∧ hMet mem c (aAt mem c) k ≠ 0 ∧ - jRes mem c (aAt mem c) k = hMet mem c (aAt mem c) k ∧ hIs mem c (aAt mem c) k = 0 := by omega
      refine pw_aload_n 0 rfl dX9_holds_32 rfl ?_
      refine pw_aload_n 0 rfl dX9_holds_33 rfl ?_
      refine pw_gR 0 2 dX9_holds_34 cOk9 (by assumption) (by decide) kw_347 (by decide) rfl ?_
      refine pw_iload_n 3 rfl dX9_holds_37 rfl ?_
      refine pw_ineg dX9_holds_38 ?_
      refine pw_callV (d' := d - 1) (As := [_]) (ci := 5) dX9_holds_39 ok_X5_met kw_410 rfl rfl (Of.o (by assumption)) (by omega) rfl (Nat.le_of_ble_eq_true rfl) (n_met (d - 1) (by omega) n ok mem hN _ (by omega)) (Nat.le_refl _) (Or.inl rfl) (fun r ok1 mem1 hq => ?_)
      obtain ⟨rfl, rfl, rfl⟩ := hq
      refine pw_callV (d' := d - 1) (As := [_]) (ci := 9) dX9_holds_42 ok_X9_refused kw_406 rfl rfl (Of.o (by assumption)) (by omega) rfl (Nat.le_of_ble_eq_true rfl) (p_refused (d - 1) (by omega) n ok _ hP9 _ (by omega)) (Nat.le_refl _) (Or.inl rfl) (fun r ok1 mem1 hq => ?_)
      obtain ⟨rfl, rfl, rfl⟩ := hq
      refine pw_goto 53 (by decide) dX9_holds_45 ?_
      refine pw_iret dX9_holds_53 rfl rfl ?_
      have e9 : rHolds mem c k 0 = rMet (wr (wr mem 88 3 0) 88 23 (hMet mem c (aAt mem c) k)) (hMet mem c (aAt mem c) k) := by
        unfold rHolds; rw [if_neg (by omega), if_pos hj.2.1]
      have hRz := RI_z hRI (hMet mem c (aAt mem c) k)
      rw [e9, hw3, hj.2.2.1]
      exact ⟨rfl, rfl, RE_met _ _ _, RG_met (RG_z hG hIO hKO _) hRz _⟩
  · skip
    rw [bz_0] at c6
    refine pw_aload_n 0 rfl dX9_holds_9 rfl ?_
    refine pw_bipush dX9_holds_10 (by decide) ?_
    refine pw_callV (d' := d - 1) (As := [_]) (ci := 9) dX9_holds_12 ok_X9_refused kw_406 rfl rfl (Of.o (by assumption)) (by omega) rfl (Nat.le_of_ble_eq_true rfl) (p_refused (d - 1) (by omega) n ok _ hP9 _ (by omega)) (Nat.le_refl _) (Or.inl rfl) (fun r ok1 mem1 hq => ?_)
    obtain ⟨rfl, rfl, rfl⟩ := hq
    refine pw_iret dX9_holds_15 rfl rfl ?_
    have e9 : rHolds mem c k 0 = rRef mem (-2) := by
      unfold rHolds; (repeat' split) <;> first | rfl | (exfalso; omega) | contradiction
    rw [e9]; exact ⟨rfl, rfl, RE1 _ _, RG_st hG hIO hKO _⟩
set_option maxHeartbeats 4000000 in
set_option maxRecDepth 100000 in
theorem p_may (d : Nat) (hd : 4 ≤ d) (n : Nat) (ok : pO) (mem : pM) (hU : ClUp n ok) (hG : RG mem mem n) (hRI : RI mem) (c v : Int) (hc : -2147483648 ≤ c ∧ c ≤ 2147483647) (hv : -2147483648 ≤ v ∧ v ≤ 2147483647)  : PM mi_X9_may d [vr 1, vi c, vi v] n ok mem n (fun r ok' mem' => r = some (vi (rMay (wr mem 88 19 0) c v 0).1) ∧ ok = ok' ∧ RE mem mem' ∧ ∀ z, RG (rMay (wr mem 88 19 0) c v z).2 mem' n) := by
  obtain ⟨hP9, hN, ⟨hn4, ho0, ho1, ho2⟩, hCh, hDr, hM, ⟨hW80, hW82, hW84⟩, q86, q87, hSU, hn133⟩ := id hU
  obtain ⟨hN5, hN3⟩ := id hN
  obtain ⟨hM4, hM9⟩ := id hM
  obtain ⟨hW8, hWA, -, -⟩ := id hW80
  have hIO := hRI.1
  have hKO := hRI.2.1
  have ht9 := hRI.2.2.1
  have hq0 := hRI.2.2.2.1
  have hty := hRI.2.2.2.2.1
  have hNR := hG.1
  have hNR1 : mem 2 1 = mem 88 19 := hNR.1
  refine PM.of (by decide) (by decide) (Nat.le_refl _) (Nat.le_of_ble_eq_true rfl) ?_
  refine pw_aload_n 0 rfl dX9_may_0 rfl ?_
  refine pw_gR 0 2 dX9_may_1 cOk9 (by assumption) (by decide) kw_347 (by decide) rfl ?_
  refine pw_callV (d' := d - 1) (As := []) (ci := 5) dX9_may_4 ok_X5_emptyTrace kw_743 rfl rfl (Of.o (by assumption)) (by omega) rfl (Nat.le_of_ble_eq_true rfl) (n_emptyTrace (d - 1) (by omega) n ok mem hN) (Nat.le_refl _) (Or.inl rfl) (fun r ok1 m0 hq => ?_)
  obtain ⟨rfl, rfl, hm0⟩ := hq
  have hG0 : RG (wr mem 88 19 0) m0 n := by rw [← hm0]; exact RG_t0 hG hIO hKO
  have hRI0 := RI_t0 hRI
  have hRE0 : RE mem m0 := fun a a1 a2 => by rw [← hm0, wr_a _ _ _ (by omega)]
  have ht1 : m0 2 1 = 0 := by rw [← hm0, wr_s]
  have hA19 : wr mem 88 19 0 88 19 = 0 := wr_s _ _ _ _
  generalize hA0 : wr mem 88 19 0 = A0 at hG0 hRI0 hA19 ⊢
  clear hG hRI hIO hKO ht9 hq0 hty hNR hNR1
  have hG := hG0
  have hRI := hRI0
  have hIO := hRI0.1
  have hKO := hRI0.2.1
  have hty := hRI0.2.2.2.2.1
  refine pw_iload_n 1 rfl dX9_may_7 rfl ?_
  refine pw_callS (d' := d - 1) (As := [_]) dX9_may_8 ok_X9_isChest kw_403 (by omega) rfl (Nat.le_of_ble_eq_true rfl) (p_isChest (d - 1) (by omega) n ok _ _ (by omega)) (Nat.le_refl _) (Or.inl rfl) (fun r ok1 mem1 hq => ?_)
  obtain ⟨rfl, rfl, rfl⟩ := hq
  refine pw_if_ne 21 (by decide) dX9_may_11 (by split <;> omega) (fun c11 => ?_) (fun c11 => ?_)
  · skip
    rw [ne_eq, bz_n] at c11
    refine pw_iload_n 2 rfl dX9_may_21 rfl ?_
    refine pw_callS (d' := d - 1) (As := [_]) dX9_may_22 ok_X9_isMove kw_762 (by omega) rfl (Nat.le_of_ble_eq_true rfl) (p_isMove (d - 1) (by omega) n ok _ _ (by omega)) (Nat.le_refl _) (Or.inl rfl) (fun r ok1 mem1 hq => ?_)
    obtain ⟨rfl, rfl, rfl⟩ := hq
    refine pw_if_ne 35 (by decide) dX9_may_25 (by split <;> omega) (fun c25 => ?_) (fun c25 => ?_)
    · skip
      rw [ne_eq, bz_n] at c25
      obtain ⟨b, hbc⟩ : ∃ b : Nat, (b : Int) = 5 + 18 * c := ⟨(5 + 18 * c).toNat, by omega⟩
      have hC : ChUp n ok b := hCh b (by omega)
      have hok : ok 4 (c).toNat = true := by rcases (show c = 0 ∨ c = 1 ∨ c = 2 by omega) with e | e | e <;> (rw [e]; assumption)
      obtain ⟨hS, hV, hJ, hKR⟩ := hG.2.1 c b (by omega) (by omega) hbc
      have hI := hIO c (by omega) (by omega)
      have hOk := hI.ok
      obtain ⟨hR, hD, hSo⟩ := id hS
      obtain ⟨hC0, ⟨hC1, hC2, hC3, hC4, hC5, hC6, hC7⟩, hC8, ⟨hC9, hC10, hC11, hC12, hC13, hC14, hC15⟩, hC16, hC17, hb5, hb59⟩ := id hC
      refine pw_aload_n 0 rfl dX9_may_35 rfl ?_
      refine pw_aload_n 0 rfl dX9_may_36 rfl ?_
      refine pw_gR 1 4 dX9_may_37 cOk9 (by assumption) (by decide) kw_348 (by decide) rfl ?_
      refine pw_iload_n 1 rfl dX9_may_40 rfl ?_
      refine pw_aaload (L := 3) dX9_may_41 (by omega) (by omega) rfl rfl (by decide) (by omega) (by omega) b hbc hok ?_
      refine pw_iload_n 2 rfl dX9_may_42 rfl ?_
      refine pw_callV (d' := d - 1) (As := [_]) (ci := 0) dX9_may_43 ok_X0_barOf kw_765 rfl rfl (Of.o (by assumption)) (by omega) rfl (Nat.le_of_ble_eq_true rfl) (h_barOf (d - 1) (by omega) n ok m0 hN b hC A0 c (aAt A0 c) hI hS hV hOk.2.1 v (by omega) (by omega)) (Nat.le_refl _) (Or.inl rfl) (fun r ok1 mem1 hq => ?_)
      obtain ⟨rfl, rfl, rfl⟩ := hq
      have hbr := bRes_ran (aAt A0 c) v hOk.1.1
      refine pw_iconst dX9_may_46 ?_
      refine pw_icmp_ne 54 (by decide) dX9_may_47 (by omega) (by omega) (fun c47 => ?_) (fun c47 => ?_)
      · skip
        refine pw_iconst dX9_may_54 ?_
        refine pw_callV (d' := d - 1) (As := [_]) (ci := 9) dX9_may_55 ok_X9_answered kw_423 rfl rfl (Of.o (by assumption)) (by omega) rfl (Nat.le_of_ble_eq_true rfl) (p_answered (d - 1) (by omega) n ok _ hP9 _) (Nat.le_refl _) (Or.inl rfl) (fun r ok1 mem1 hq => ?_)
        obtain ⟨rfl, rfl, rfl⟩ := hq
        refine pw_iret dX9_may_58 rfl rfl ?_
        have e9 : ∀ z, rMay A0 c v z = rSay (wr (rEv A0 (iEv A0 c (aAt A0 c) v)) 88 23 z) (iRes A0 c (aAt A0 c) v) := by
          intro z; unfold rMay; (repeat' split) <;> first | rfl | (exfalso; omega) | contradiction
        rw [e9]
        have s9 := nSame.e A0 (iEv A0 c (aAt A0 c) v)
        have hI9 : IOk (rEv A0 (iEv A0 c (aAt A0 c) v)) := IOk_c hIO (fun a a1 a2 => s9.1 a (by omega) (by omega))
        have hK9 : KOk (rEv A0 (iEv A0 c (aAt A0 c) v)) := KOk_c hKO (s9.1 _ (by omega) (by omega)) (s9.1 _ (by omega) (by omega))
        refine ⟨congrArg (fun q => some (vi q)) (by show _ = iRes A0 c (aAt A0 c) v; unfold iRes; rw [if_neg c47]), rfl, RE_w (RE_2 hRE0 (RE_ev _ _)) _, fun z => ?_⟩
        rw [e9]
        exact RG_st (RG_z (RG_ev hG hIO hKO (by omega) hRI.2.2.2.1 _) hI9 hK9 z) (IOk_c hI9 (fun a a1 a2 => wr_a _ _ _ (by omega))) (KOk_c hK9 (wr_a _ _ _ (by omega)) (wr_a _ _ _ (by omega))) _
      · skip
        refine pw_iconst dX9_may_50 ?_
        refine pw_goto 55 (by decide) dX9_may_51 ?_
        refine pw_callV (d' := d - 1) (As := [_]) (ci := 9) dX9_may_55 ok_X9_answered kw_423 rfl rfl (Of.o (by assumption)) (by omega) rfl (Nat.le_of_ble_eq_true rfl) (p_answered (d - 1) (by omega) n ok _ hP9 _) (Nat.le_refl _) (Or.inl rfl) (fun r ok1 mem1 hq => ?_)
        obtain ⟨rfl, rfl, rfl⟩ := hq
        refine pw_iret dX9_may_58 rfl rfl ?_
        have e9 : ∀ z, rMay A0 c v z = rSay (wr (rEv A0 (iEv A0 c (aAt A0 c) v)) 88 23 z) (iRes A0 c (aAt A0 c) v) := by
          intro z; unfold rMay; (repeat' split) <;> first | rfl | (exfalso; omega) | contradiction
        rw [e9]
        have s9 := nSame.e A0 (iEv A0 c (aAt A0 c) v)
        have hI9 : IOk (rEv A0 (iEv A0 c (aAt A0 c) v)) := IOk_c hIO (fun a a1 a2 => s9.1 a (by omega) (by omega))
        have hK9 : KOk (rEv A0 (iEv A0 c (aAt A0 c) v)) := KOk_c hKO (s9.1 _ (by omega) (by omega)) (s9.1 _ (by omega) (by omega))
        refine ⟨congrArg (fun q => some (vi q)) (by show _ = iRes A0 c (aAt A0 c) v; unfold iRes; rw [if_pos (by omega)]), rfl, RE_w (RE_2 hRE0 (RE_ev _ _)) _, fun z => ?_⟩
        rw [e9]
        exact RG_st (RG_z (RG_ev hG hIO hKO (by omega) hRI.2.2.2.1 _) hI9 hK9 z) (IOk_c hI9 (fun a a1 a2 => wr_a _ _ _ (by omega))) (KOk_c hK9 (wr_a _ _ _ (by omega)) (wr_a _ _ _ (by omega))) _
    · skip
      rw [bz_0] at c25
      refine pw_aload_n 0 rfl dX9_may_28 rfl ?_
      refine pw_bipush dX9_may_29 (by decide) ?_
      refine pw_callV (d' := d - 1) (As := [_]) (ci := 9) dX9_may_31 ok_X9_refused kw_406 rfl rfl (Of.o (by assumption)) (by omega) rfl (Nat.le_of_ble_eq_true rfl) (p_refused (d - 1) (by omega) n ok _ hP9 _ (by omega)) (Nat.le_refl _) (Or.inl rfl) (fun r ok1 mem1 hq => ?_)
      obtain ⟨rfl, rfl, rfl⟩ := hq
      refine pw_iret dX9_may_34 rfl rfl ?_
      have e9 : ∀ z, rMay A0 c v z = rRef A0 (-3) := by
        intro z; unfold rMay; (repeat' split) <;> first | rfl | (exfalso; omega) | contradiction
      rw [e9]; exact ⟨rfl, rfl, RE_w hRE0 _, fun z => by rw [e9]; exact RG_st hG hIO hKO _⟩
  · skip
    rw [bz_0] at c11
    refine pw_aload_n 0 rfl dX9_may_14 rfl ?_
    refine pw_bipush dX9_may_15 (by decide) ?_
    refine pw_callV (d' := d - 1) (As := [_]) (ci := 9) dX9_may_17 ok_X9_refused kw_406 rfl rfl (Of.o (by assumption)) (by omega) rfl (Nat.le_of_ble_eq_true rfl) (p_refused (d - 1) (by omega) n ok _ hP9 _ (by omega)) (Nat.le_refl _) (Or.inl rfl) (fun r ok1 mem1 hq => ?_)
    obtain ⟨rfl, rfl, rfl⟩ := hq
    refine pw_iret dX9_may_20 rfl rfl ?_
    have e9 : ∀ z, rMay A0 c v z = rRef A0 (-2) := by
      intro z; unfold rMay; (repeat' split) <;> first | rfl | (exfalso; omega) | contradiction
    rw [e9]; exact ⟨rfl, rfl, RE_w hRE0 _, fun z => by rw [e9]; exact RG_st hG hIO hKO _⟩
set_option maxHeartbeats 4000000 in
set_option maxRecDepth 100000 in
theorem p_barredBy (d : Nat) (hd : 4 ≤ d) (n : Nat) (ok : pO) (mem : pM) (hU : ClUp n ok) (hG : RG mem mem n) (hRI : RI mem) (c v : Int) (hc : -2147483648 ≤ c ∧ c ≤ 2147483647) (hv : -2147483648 ≤ v ∧ v ≤ 2147483647)  : PM mi_X9_barredBy d [vr 1, vi c, vi v] n ok mem n (fun r ok' mem' => r = some (vi (rBarred (wr mem 88 19 0) c v 0).1) ∧ ok = ok' ∧ RE mem mem' ∧ ∀ z, RG (rBarred (wr mem 88 19 0) c v z).2 mem' n) := by
  obtain ⟨hP9, hN, ⟨hn4, ho0, ho1, ho2⟩, hCh, hDr, hM, ⟨hW80, hW82, hW84⟩, q86, q87, hSU, hn133⟩ := id hU
  obtain ⟨hN5, hN3⟩ := id hN
  obtain ⟨hM4, hM9⟩ := id hM
  obtain ⟨hW8, hWA, -, -⟩ := id hW80
  have hIO := hRI.1
  have hKO := hRI.2.1
  have ht9 := hRI.2.2.1
  have hq0 := hRI.2.2.2.1
  have hty := hRI.2.2.2.2.1
  have hNR := hG.1
  have hNR1 : mem 2 1 = mem 88 19 := hNR.1
  refine PM.of (by decide) (by decide) (Nat.le_refl _) (Nat.le_of_ble_eq_true rfl) ?_
  refine pw_aload_n 0 rfl dX9_barredBy_0 rfl ?_
  refine pw_gR 0 2 dX9_barredBy_1 cOk9 (by assumption) (by decide) kw_347 (by decide) rfl ?_
  refine pw_callV (d' := d - 1) (As := []) (ci := 5) dX9_barredBy_4 ok_X5_emptyTrace kw_743 rfl rfl (Of.o (by assumption)) (by omega) rfl (Nat.le_of_ble_eq_true rfl) (n_emptyTrace (d - 1) (by omega) n ok mem hN) (Nat.le_refl _) (Or.inl rfl) (fun r ok1 m0 hq => ?_)
  obtain ⟨rfl, rfl, hm0⟩ := hq
  have hG0 : RG (wr mem 88 19 0) m0 n := by rw [← hm0]; exact RG_t0 hG hIO hKO
  have hRI0 := RI_t0 hRI
  have hRE0 : RE mem m0 := fun a a1 a2 => by rw [← hm0, wr_a _ _ _ (by omega)]
  have ht1 : m0 2 1 = 0 := by rw [← hm0, wr_s]
  have hA19 : wr mem 88 19 0 88 19 = 0 := wr_s _ _ _ _
  generalize hA0 : wr mem 88 19 0 = A0 at hG0 hRI0 hA19 ⊢
  clear hG hRI hIO hKO ht9 hq0 hty hNR hNR1
  have hG := hG0
  have hRI := hRI0
  have hIO := hRI0.1
  have hKO := hRI0.2.1
  have hty := hRI0.2.2.2.2.1
  refine pw_iload_n 1 rfl dX9_barredBy_7 rfl ?_
  refine pw_callS (d' := d - 1) (As := [_]) dX9_barredBy_8 ok_X9_isChest kw_403 (by omega) rfl (Nat.le_of_ble_eq_true rfl) (p_isChest (d - 1) (by omega) n ok _ _ (by omega)) (Nat.le_refl _) (Or.inl rfl) (fun r ok1 mem1 hq => ?_)
  obtain ⟨rfl, rfl, rfl⟩ := hq
  refine pw_if_ne 21 (by decide) dX9_barredBy_11 (by split <;> omega) (fun c11 => ?_) (fun c11 => ?_)
  · skip
    rw [ne_eq, bz_n] at c11
    refine pw_iload_n 2 rfl dX9_barredBy_21 rfl ?_
    refine pw_callS (d' := d - 1) (As := [_]) dX9_barredBy_22 ok_X9_isMove kw_762 (by omega) rfl (Nat.le_of_ble_eq_true rfl) (p_isMove (d - 1) (by omega) n ok _ _ (by omega)) (Nat.le_refl _) (Or.inl rfl) (fun r ok1 mem1 hq => ?_)
    obtain ⟨rfl, rfl, rfl⟩ := hq
    refine pw_if_ne 35 (by decide) dX9_barredBy_25 (by split <;> omega) (fun c25 => ?_) (fun c25 => ?_)
    · skip
      rw [ne_eq, bz_n] at c25
      obtain ⟨b, hbc⟩ : ∃ b : Nat, (b : Int) = 5 + 18 * c := ⟨(5 + 18 * c).toNat, by omega⟩
      have hC : ChUp n ok b := hCh b (by omega)
      have hok : ok 4 (c).toNat = true := by rcases (show c = 0 ∨ c = 1 ∨ c = 2 by omega) with e | e | e <;> (rw [e]; assumption)
      obtain ⟨hS, hV, hJ, hKR⟩ := hG.2.1 c b (by omega) (by omega) hbc
      have hI := hIO c (by omega) (by omega)
      have hOk := hI.ok
      obtain ⟨hR, hD, hSo⟩ := id hS
      obtain ⟨hC0, ⟨hC1, hC2, hC3, hC4, hC5, hC6, hC7⟩, hC8, ⟨hC9, hC10, hC11, hC12, hC13, hC14, hC15⟩, hC16, hC17, hb5, hb59⟩ := id hC
      refine pw_aload_n 0 rfl dX9_barredBy_35 rfl ?_
      refine pw_gR 1 4 dX9_barredBy_36 cOk9 (by assumption) (by decide) kw_348 (by decide) rfl ?_
      refine pw_iload_n 1 rfl dX9_barredBy_39 rfl ?_
      refine pw_aaload (L := 3) dX9_barredBy_40 (by omega) (by omega) rfl rfl (by decide) (by omega) (by omega) b hbc hok ?_
      refine pw_iload_n 2 rfl dX9_barredBy_41 rfl ?_
      refine pw_callV (d' := d - 1) (As := [_]) (ci := 0) dX9_barredBy_42 ok_X0_barOf kw_765 rfl rfl (Of.o (by assumption)) (by omega) rfl (Nat.le_of_ble_eq_true rfl) (h_barOf (d - 1) (by omega) n ok m0 hN b hC A0 c (aAt A0 c) hI hS hV hOk.2.1 v (by omega) (by omega)) (Nat.le_refl _) (Or.inl rfl) (fun r ok1 mem1 hq => ?_)
      obtain ⟨rfl, rfl, rfl⟩ := hq
      have hbr := bRes_ran (aAt A0 c) v hOk.1.1
      refine pw_istore_n 3 rfl dX9_barredBy_45 (by decide) ?_
      refine pw_iload_n 3 rfl dX9_barredBy_46 rfl ?_
      refine pw_bipush dX9_barredBy_47 (by decide) ?_
      refine pw_icmp_ge 60 (by decide) dX9_barredBy_49 (by omega) (by omega) (fun c49 => ?_) (fun c49 => ?_)
      · skip
        refine pw_aload_n 0 rfl dX9_barredBy_60 rfl ?_
        refine pw_iload_n 3 rfl dX9_barredBy_61 rfl ?_
        refine pw_callV (d' := d - 1) (As := [_]) (ci := 9) dX9_barredBy_62 ok_X9_answered kw_423 rfl rfl (Of.o (by assumption)) (by omega) rfl (Nat.le_of_ble_eq_true rfl) (p_answered (d - 1) (by omega) n ok _ hP9 _) (Nat.le_refl _) (Or.inl rfl) (fun r ok1 mem1 hq => ?_)
        obtain ⟨rfl, rfl, rfl⟩ := hq
        refine pw_iret dX9_barredBy_65 rfl rfl ?_
        have e9 : ∀ z, rBarred A0 c v z = rSay (wr (rEv A0 ((bRes A0 c (aAt A0 c) v).2)) 88 23 z) ((bRes A0 c (aAt A0 c) v).1) := by
          intro z; unfold rBarred; rw [if_neg (by omega), if_neg (by omega), if_neg (by omega)]
        have ei : iEv A0 c (aAt A0 c) v = (bRes A0 c (aAt A0 c) v).2 := by unfold iEv; rw [if_neg (by omega), List.append_nil]
        rw [e9, ei]
        have s9 := nSame.e A0 ((bRes A0 c (aAt A0 c) v).2)
        have hI9 : IOk (rEv A0 ((bRes A0 c (aAt A0 c) v).2)) := IOk_c hIO (fun a a1 a2 => s9.1 a (by omega) (by omega))
        have hK9 : KOk (rEv A0 ((bRes A0 c (aAt A0 c) v).2)) := KOk_c hKO (s9.1 _ (by omega) (by omega)) (s9.1 _ (by omega) (by omega))
        refine ⟨rfl, rfl, RE_w (RE_2 hRE0 (RE_ev _ _)) _, fun z => ?_⟩
        rw [e9]
        exact RG_st (RG_z (RG_ev hG hIO hKO (by omega) hRI.2.2.2.1 _) hI9 hK9 z) (IOk_c hI9 (fun a a1 a2 => wr_a _ _ _ (by omega))) (KOk_c hK9 (wr_a _ _ _ (by omega)) (wr_a _ _ _ (by omega))) _
      · skip
        refine pw_aload_n 0 rfl dX9_barredBy_52 rfl ?_
        refine pw_iload_n 3 rfl dX9_barredBy_53 rfl ?_
        refine pw_callV (d' := d - 1) (As := [_]) (ci := 9) dX9_barredBy_54 ok_X9_refused kw_406 rfl rfl (Of.o (by assumption)) (by omega) rfl (Nat.le_of_ble_eq_true rfl) (p_refused (d - 1) (by omega) n ok _ hP9 _ (by omega)) (Nat.le_refl _) (Or.inl rfl) (fun r ok1 mem1 hq => ?_)
        obtain ⟨rfl, rfl, rfl⟩ := hq
        refine pw_goto 65 (by decide) dX9_barredBy_57 ?_
        refine pw_iret dX9_barredBy_65 rfl rfl ?_
        have e9 : ∀ z, rBarred A0 c v z = (-10 - (-10 - (bRes A0 c (aAt A0 c) v).1), wr (wr (rEv A0 (iEv A0 c (aAt A0 c) v)) 88 23 z) 88 0 (-10 - (-10 - (bRes A0 c (aAt A0 c) v).1))) := by
          intro z; unfold rBarred; rw [if_neg (by omega), if_neg (by omega), if_pos (by omega)]
          unfold rMet iEv
          rw [if_pos (by omega), rEv_app, show rEv (rEv A0 (bRes A0 c (aAt A0 c) v).2) [(false, -10 - (bRes A0 c (aAt A0 c) v).1)] = rNotes (rEv A0 (bRes A0 c (aAt A0 c) v).2) (-10 - (bRes A0 c (aAt A0 c) v).1) from rfl]
          have := rEv_met (rEv A0 (bRes A0 c (aAt A0 c) v).2) z [(false, -10 - (bRes A0 c (aAt A0 c) v).1)]
          rw [← show rNotes (wr (rEv A0 (bRes A0 c (aAt A0 c) v).2) 88 23 z) (-10 - (bRes A0 c (aAt A0 c) v).1) = wr (rNotes (rEv A0 (bRes A0 c (aAt A0 c) v).2) (-10 - (bRes A0 c (aAt A0 c) v).1)) 88 23 z from this]
        rw [show (-10 - (-10 - (bRes A0 c (aAt A0 c) v).1) : Int) = (bRes A0 c (aAt A0 c) v).1 by omega] at e9
        rw [e9]
        have s9 := nSame.e A0 (iEv A0 c (aAt A0 c) v)
        have hI9 : IOk (rEv A0 (iEv A0 c (aAt A0 c) v)) := IOk_c hIO (fun a a1 a2 => s9.1 a (by omega) (by omega))
        have hK9 : KOk (rEv A0 (iEv A0 c (aAt A0 c) v)) := KOk_c hKO (s9.1 _ (by omega) (by omega)) (s9.1 _ (by omega) (by omega))
        refine ⟨rfl, rfl, RE_w (RE_2 hRE0 (RE_ev _ _)) _, fun z => ?_⟩
        rw [e9]
        exact RG_st (RG_z (RG_ev hG hIO hKO (by omega) hRI.2.2.2.1 _) hI9 hK9 z) (IOk_c hI9 (fun a a1 a2 => wr_a _ _ _ (by omega))) (KOk_c hK9 (wr_a _ _ _ (by omega)) (wr_a _ _ _ (by omega))) _
    · skip
      rw [bz_0] at c25
      refine pw_aload_n 0 rfl dX9_barredBy_28 rfl ?_
      refine pw_bipush dX9_barredBy_29 (by decide) ?_
      refine pw_callV (d' := d - 1) (As := [_]) (ci := 9) dX9_barredBy_31 ok_X9_refused kw_406 rfl rfl (Of.o (by assumption)) (by omega) rfl (Nat.le_of_ble_eq_true rfl) (p_refused (d - 1) (by omega) n ok _ hP9 _ (by omega)) (Nat.le_refl _) (Or.inl rfl) (fun r ok1 mem1 hq => ?_)
      obtain ⟨rfl, rfl, rfl⟩ := hq
      refine pw_iret dX9_barredBy_34 rfl rfl ?_
      have e9 : ∀ z, rBarred A0 c v z = rRef A0 (-6) := by
        intro z; unfold rBarred; (repeat' split) <;> first | rfl | (exfalso; omega) | contradiction
      rw [e9]; exact ⟨rfl, rfl, RE_w hRE0 _, fun z => by rw [e9]; exact RG_st hG hIO hKO _⟩
  · skip
    rw [bz_0] at c11
    refine pw_aload_n 0 rfl dX9_barredBy_14 rfl ?_
    refine pw_bipush dX9_barredBy_15 (by decide) ?_
    refine pw_callV (d' := d - 1) (As := [_]) (ci := 9) dX9_barredBy_17 ok_X9_refused kw_406 rfl rfl (Of.o (by assumption)) (by omega) rfl (Nat.le_of_ble_eq_true rfl) (p_refused (d - 1) (by omega) n ok _ hP9 _ (by omega)) (Nat.le_refl _) (Or.inl rfl) (fun r ok1 mem1 hq => ?_)
    obtain ⟨rfl, rfl, rfl⟩ := hq
    refine pw_iret dX9_barredBy_20 rfl rfl ?_
    have e9 : ∀ z, rBarred A0 c v z = rRef A0 (-2) := by
      intro z; unfold rBarred; (repeat' split) <;> first | rfl | (exfalso; omega) | contradiction
    rw [e9]; exact ⟨rfl, rfl, RE_w hRE0 _, fun z => by rw [e9]; exact RG_st hG hIO hKO _⟩
set_option maxHeartbeats 4000000 in
set_option maxRecDepth 100000 in
theorem p_isOpen (d : Nat) (hd : 4 ≤ d) (n : Nat) (ok : pO) (mem : pM) (hU : ClUp n ok) (hG : RG mem mem n) (hRI : RI mem) (c : Int) (hc : -2147483648 ≤ c ∧ c ≤ 2147483647)  : PM mi_X9_isOpen d [vr 1, vi c] n ok mem n (fun r ok' mem' => r = some (vi (rIsOpen (wr mem 88 19 0) c 0).1) ∧ ok = ok' ∧ RE mem mem' ∧ ∀ z, RG (rIsOpen (wr mem 88 19 0) c z).2 mem' n) := by
  obtain ⟨hP9, hN, ⟨hn4, ho0, ho1, ho2⟩, hCh, hDr, hM, ⟨hW80, hW82, hW84⟩, q86, q87, hSU, hn133⟩ := id hU
  obtain ⟨hN5, hN3⟩ := id hN
  obtain ⟨hM4, hM9⟩ := id hM
  obtain ⟨hW8, hWA, -, -⟩ := id hW80
  have hIO := hRI.1
  have hKO := hRI.2.1
  have ht9 := hRI.2.2.1
  have hq0 := hRI.2.2.2.1
  have hty := hRI.2.2.2.2.1
  have hNR := hG.1
  have hNR1 : mem 2 1 = mem 88 19 := hNR.1
  refine PM.of (by decide) (by decide) (Nat.le_refl _) (Nat.le_of_ble_eq_true rfl) ?_
  refine pw_aload_n 0 rfl dX9_isOpen_0 rfl ?_
  refine pw_gR 0 2 dX9_isOpen_1 cOk9 (by assumption) (by decide) kw_347 (by decide) rfl ?_
  refine pw_callV (d' := d - 1) (As := []) (ci := 5) dX9_isOpen_4 ok_X5_emptyTrace kw_743 rfl rfl (Of.o (by assumption)) (by omega) rfl (Nat.le_of_ble_eq_true rfl) (n_emptyTrace (d - 1) (by omega) n ok mem hN) (Nat.le_refl _) (Or.inl rfl) (fun r ok1 m0 hq => ?_)
  obtain ⟨rfl, rfl, hm0⟩ := hq
  have hG0 : RG (wr mem 88 19 0) m0 n := by rw [← hm0]; exact RG_t0 hG hIO hKO
  have hRI0 := RI_t0 hRI
  have hRE0 : RE mem m0 := fun a a1 a2 => by rw [← hm0, wr_a _ _ _ (by omega)]
  have ht1 : m0 2 1 = 0 := by rw [← hm0, wr_s]
  have hA19 : wr mem 88 19 0 88 19 = 0 := wr_s _ _ _ _
  generalize hA0 : wr mem 88 19 0 = A0 at hG0 hRI0 hA19 ⊢
  clear hG hRI hIO hKO ht9 hq0 hty hNR hNR1
  have hG := hG0
  have hRI := hRI0
  have hIO := hRI0.1
  have hKO := hRI0.2.1
  have hty := hRI0.2.2.2.2.1
  refine pw_iload_n 1 rfl dX9_isOpen_7 rfl ?_
  refine pw_callS (d' := d - 1) (As := [_]) dX9_isOpen_8 ok_X9_isChest kw_403 (by omega) rfl (Nat.le_of_ble_eq_true rfl) (p_isChest (d - 1) (by omega) n ok _ _ (by omega)) (Nat.le_refl _) (Or.inl rfl) (fun r ok1 mem1 hq => ?_)
  obtain ⟨rfl, rfl, rfl⟩ := hq
  refine pw_if_ne 21 (by decide) dX9_isOpen_11 (by split <;> omega) (fun c11 => ?_) (fun c11 => ?_)
  · skip
    rw [ne_eq, bz_n] at c11
    obtain ⟨b, hbc⟩ : ∃ b : Nat, (b : Int) = 5 + 18 * c := ⟨(5 + 18 * c).toNat, by omega⟩
    have hC : ChUp n ok b := hCh b (by omega)
    have hok : ok 4 (c).toNat = true := by rcases (show c = 0 ∨ c = 1 ∨ c = 2 by omega) with e | e | e <;> (rw [e]; assumption)
    obtain ⟨hS, hV, hJ, hKR⟩ := hG.2.1 c b (by omega) (by omega) hbc
    have hI := hIO c (by omega) (by omega)
    have hOk := hI.ok
    obtain ⟨hR, hD, hSo⟩ := id hS
    obtain ⟨hC0, ⟨hC1, hC2, hC3, hC4, hC5, hC6, hC7⟩, hC8, ⟨hC9, hC10, hC11, hC12, hC13, hC14, hC15⟩, hC16, hC17, hb5, hb59⟩ := id hC
    refine pw_aload_n 0 rfl dX9_isOpen_21 rfl ?_
    refine pw_aload_n 0 rfl dX9_isOpen_22 rfl ?_
    refine pw_gR 1 4 dX9_isOpen_23 cOk9 (by assumption) (by decide) kw_348 (by decide) rfl ?_
    refine pw_iload_n 1 rfl dX9_isOpen_26 rfl ?_
    refine pw_aaload (L := 3) dX9_isOpen_27 (by omega) (by omega) rfl rfl (by decide) (by omega) (by omega) b hbc hok ?_
    refine pw_iconst dX9_isOpen_28 ?_
    refine pw_callV (d' := d - 1) (As := [_]) (ci := 0) dX9_isOpen_29 ok_X0_opens kw_780 rfl rfl (Of.o (by assumption)) (by omega) rfl (Nat.le_of_ble_eq_true rfl) (h_opens (d - 1) (by omega) n ok m0 hN b hC A0 c (aAt A0 c) hI hS hV hOk.2.1 1 (by omega) (by omega)) (Nat.le_refl _) (Or.inl rfl) (fun r ok1 mem1 hq => ?_)
    obtain ⟨rfl, rfl, hm1⟩ := hq
    have hm2 : nEv m0 (oEv A0 c (aAt A0 c)) = mem1 := hm1
    subst hm2
    have ho1 := oRes_01 A0 c (aAt A0 c)
    refine pw_if_eq 39 (by decide) dX9_isOpen_32 (by omega) (fun c32 => ?_) (fun c32 => ?_)
    · skip
      refine pw_iconst dX9_isOpen_39 ?_
      refine pw_callV (d' := d - 1) (As := [_]) (ci := 9) dX9_isOpen_40 ok_X9_answered kw_423 rfl rfl (Of.o (by assumption)) (by omega) rfl (Nat.le_of_ble_eq_true rfl) (p_answered (d - 1) (by omega) n ok _ hP9 _) (Nat.le_refl _) (Or.inl rfl) (fun r ok1 mem1 hq => ?_)
      obtain ⟨rfl, rfl, rfl⟩ := hq
      refine pw_iret dX9_isOpen_43 rfl rfl ?_
      have e9 : ∀ z, rIsOpen A0 c z = rSay (wr (rEv A0 (oEv A0 c (aAt A0 c))) 88 23 z) (oRes A0 c (aAt A0 c)) := by
        intro z; unfold rIsOpen; (repeat' split) <;> first | rfl | (exfalso; omega) | contradiction
      rw [e9]
      have s9 := nSame.e A0 (oEv A0 c (aAt A0 c))
      have hI9 : IOk (rEv A0 (oEv A0 c (aAt A0 c))) := IOk_c hIO (fun a a1 a2 => s9.1 a (by omega) (by omega))
      have hK9 : KOk (rEv A0 (oEv A0 c (aAt A0 c))) := KOk_c hKO (s9.1 _ (by omega) (by omega)) (s9.1 _ (by omega) (by omega))
      refine ⟨congrArg (fun q => some (vi q)) (by show _ = oRes A0 c (aAt A0 c); omega), rfl, RE_w (RE_2 hRE0 (RE_ev _ _)) _, fun z => ?_⟩
      rw [e9]
      exact RG_st (RG_z (RG_ev hG hIO hKO (by omega) hRI.2.2.2.1 _) hI9 hK9 z) (IOk_c hI9 (fun a a1 a2 => wr_a _ _ _ (by omega))) (KOk_c hK9 (wr_a _ _ _ (by omega)) (wr_a _ _ _ (by omega))) _
    · skip
      refine pw_iconst dX9_isOpen_35 ?_
      refine pw_goto 40 (by decide) dX9_isOpen_36 ?_
      refine pw_callV (d' := d - 1) (As := [_]) (ci := 9) dX9_isOpen_40 ok_X9_answered kw_423 rfl rfl (Of.o (by assumption)) (by omega) rfl (Nat.le_of_ble_eq_true rfl) (p_answered (d - 1) (by omega) n ok _ hP9 _) (Nat.le_refl _) (Or.inl rfl) (fun r ok1 mem1 hq => ?_)
      obtain ⟨rfl, rfl, rfl⟩ := hq
      refine pw_iret dX9_isOpen_43 rfl rfl ?_
      have e9 : ∀ z, rIsOpen A0 c z = rSay (wr (rEv A0 (oEv A0 c (aAt A0 c))) 88 23 z) (oRes A0 c (aAt A0 c)) := by
        intro z; unfold rIsOpen; (repeat' split) <;> first | rfl | (exfalso; omega) | contradiction
      rw [e9]
      have s9 := nSame.e A0 (oEv A0 c (aAt A0 c))
      have hI9 : IOk (rEv A0 (oEv A0 c (aAt A0 c))) := IOk_c hIO (fun a a1 a2 => s9.1 a (by omega) (by omega))
      have hK9 : KOk (rEv A0 (oEv A0 c (aAt A0 c))) := KOk_c hKO (s9.1 _ (by omega) (by omega)) (s9.1 _ (by omega) (by omega))
      refine ⟨congrArg (fun q => some (vi q)) (by show _ = oRes A0 c (aAt A0 c); omega), rfl, RE_w (RE_2 hRE0 (RE_ev _ _)) _, fun z => ?_⟩
      rw [e9]
      exact RG_st (RG_z (RG_ev hG hIO hKO (by omega) hRI.2.2.2.1 _) hI9 hK9 z) (IOk_c hI9 (fun a a1 a2 => wr_a _ _ _ (by omega))) (KOk_c hK9 (wr_a _ _ _ (by omega)) (wr_a _ _ _ (by omega))) _
  · skip
    rw [bz_0] at c11
    refine pw_aload_n 0 rfl dX9_isOpen_14 rfl ?_
    refine pw_bipush dX9_isOpen_15 (by decide) ?_
    refine pw_callV (d' := d - 1) (As := [_]) (ci := 9) dX9_isOpen_17 ok_X9_refused kw_406 rfl rfl (Of.o (by assumption)) (by omega) rfl (Nat.le_of_ble_eq_true rfl) (p_refused (d - 1) (by omega) n ok _ hP9 _ (by omega)) (Nat.le_refl _) (Or.inl rfl) (fun r ok1 mem1 hq => ?_)
    obtain ⟨rfl, rfl, rfl⟩ := hq
    refine pw_iret dX9_isOpen_20 rfl rfl ?_
    have e9 : ∀ z, rIsOpen A0 c z = rRef A0 (-2) := by
      intro z; unfold rIsOpen; (repeat' split) <;> first | rfl | (exfalso; omega) | contradiction
    rw [e9]; exact ⟨rfl, rfl, RE_w hRE0 _, fun z => by rw [e9]; exact RG_st hG hIO hKO _⟩
set_option maxHeartbeats 4000000 in
set_option maxRecDepth 100000 in
theorem p_back (d : Nat) (hd : 2 ≤ d) (n : Nat) (ok : pO) (mem : pM) (hU : ClUp n ok) (hG : RG mem mem n) (hRI : RI mem) (c : Int) (hc : -2147483648 ≤ c ∧ c ≤ 2147483647)  : PM mi_X9_back d [vr 1, vi c] n ok mem n (fun r ok' mem' => r = some (vi (rBack mem c).1) ∧ ok = ok' ∧ RE mem mem' ∧ RG (rBack mem c).2 mem' n) := by
  obtain ⟨hP9, hN, ⟨hn4, ho0, ho1, ho2⟩, hCh, hDr, hM, ⟨hW80, hW82, hW84⟩, q86, q87, hSU, hn133⟩ := id hU
  obtain ⟨hN5, hN3⟩ := id hN
  obtain ⟨hM4, hM9⟩ := id hM
  obtain ⟨hW8, hWA, -, -⟩ := id hW80
  have hIO := hRI.1
  have hKO := hRI.2.1
  have ht9 := hRI.2.2.1
  have hq0 := hRI.2.2.2.1
  have hty := hRI.2.2.2.2.1
  have hNR := hG.1
  have hNR1 : mem 2 1 = mem 88 19 := hNR.1
  refine PM.of (by decide) (by decide) (Nat.le_refl _) (Nat.le_of_ble_eq_true rfl) ?_
  refine pw_iload_n 1 rfl dX9_back_0 rfl ?_
  refine pw_callS (d' := d - 1) (As := [_]) dX9_back_1 ok_X9_isChest kw_403 (by omega) rfl (Nat.le_of_ble_eq_true rfl) (p_isChest (d - 1) (by omega) n ok _ _ (by omega)) (Nat.le_refl _) (Or.inl rfl) (fun r ok1 mem1 hq => ?_)
  obtain ⟨rfl, rfl, rfl⟩ := hq
  refine pw_if_ne 14 (by decide) dX9_back_4 (by split <;> omega) (fun c4 => ?_) (fun c4 => ?_)
  · skip
    rw [ne_eq, bz_n] at c4
    obtain ⟨b, hbc⟩ : ∃ b : Nat, (b : Int) = 5 + 18 * c := ⟨(5 + 18 * c).toNat, by omega⟩
    have hC : ChUp n ok b := hCh b (by omega)
    have hok : ok 4 (c).toNat = true := by rcases (show c = 0 ∨ c = 1 ∨ c = 2 by omega) with e | e | e <;> (rw [e]; assumption)
    obtain ⟨hS, hV, hJ, hKR⟩ := hG.2.1 c b (by omega) (by omega) hbc
    have hI := hIO c (by omega) (by omega)
    have hOk := hI.ok
    obtain ⟨hR, hD, hSo⟩ := id hS
    obtain ⟨hC0, ⟨hC1, hC2, hC3, hC4, hC5, hC6, hC7⟩, hC8, ⟨hC9, hC10, hC11, hC12, hC13, hC14, hC15⟩, hC16, hC17, hb5, hb59⟩ := id hC
    have hko := hKO c (by omega) (by omega)
    refine pw_aload_n 0 rfl dX9_back_14 rfl ?_
    refine pw_gR 1 4 dX9_back_15 cOk9 (by assumption) (by decide) kw_348 (by decide) rfl ?_
    refine pw_iload_n 1 rfl dX9_back_18 rfl ?_
    refine pw_aaload (L := 3) dX9_back_19 (by omega) (by omega) rfl rfl (by decide) (by omega) (by omega) b hbc hok ?_
    refine pw_astore_n 2 rfl dX9_back_20 (by decide) ?_
    refine pw_aload_n 2 rfl dX9_back_21 rfl ?_
    refine pw_gR 9 (b + 16) dX9_back_22 cOk0 (by assumption) (by decide) kw_250 (by decide) rfl ?_
    refine pw_gI 2 2 rfl dX9_back_25 cOk3 (by assumption) (by decide) kw_181 (by decide) (fun r25 => ?_)
    rw [hKR.1] at r25 ⊢
    refine pw_if_ne 38 (by decide) dX9_back_28 (by omega) (fun c28 => ?_) (fun c28 => ?_)
    · skip
      refine pw_aload_n 2 rfl dX9_back_38 rfl ?_
      refine pw_gR 9 (b + 16) dX9_back_39 cOk0 (by assumption) (by decide) kw_250 (by decide) rfl ?_
      refine pw_callV (d' := d - 1) (As := []) (ci := 3) dX9_back_42 ok_X3_pop kw_848 rfl rfl (Of.o (by assumption)) (by omega) rfl (Nat.le_of_ble_eq_true rfl) (k_pop (d - 1) (by omega) n ok mem b ⟨hC16, hC17⟩ hKR.2.1 (by rw [hKR.1]; omega)) (Nat.le_refl _) (Or.inl rfl) (fun r ok1 mem1 hq => ?_)
      obtain ⟨rfl, rfl, hm1⟩ := hq
      have hRG1 := RG_pop hG hRI (c := c) (by omega) hbc (by omega)
      have hR1 := RI_pop hRI (c := c) (by omega) (by omega)
      rw [hm1] at hRG1
      rw [hRG1.2]
      have hx9 := hko.2.2 (mem 101 c - 1) (by omega) (by omega)
      obtain ⟨k1, k2, k3, k4⟩ := hRG1.1.2.1 c b (by omega) (by omega) hbc
      have k5 := hR1.1 c (by omega) (by omega)
      refine pw_istore_n 3 rfl dX9_back_45 (by decide) ?_
      refine pw_aload_n 2 rfl dX9_back_46 rfl ?_
      refine pw_iload_n 3 rfl dX9_back_47 rfl ?_
      refine pw_callV (d' := d - 1) (As := [_]) (ci := 0) dX9_back_48 ok_X0_standAt kw_794 rfl rfl (Of.o (by assumption)) (by omega) rfl (Nat.le_of_ble_eq_true rfl) (h_standAt (d - 1) (by omega) n ok mem1 hN b hC _ c _ k5 k1 k2 k5.ok.2.1 _ (by omega)) (Nat.le_refl _) (Or.inl rfl) (fun r ok1 mem2 hq => ?_)
      obtain ⟨rfl, rfl, hq1, hq2⟩ := hq
      refine pw_aload_n 0 rfl dX9_back_51 rfl ?_
      refine pw_iload_n 3 rfl dX9_back_52 rfl ?_
      refine pw_callV (d' := d - 1) (As := [_]) (ci := 9) dX9_back_53 ok_X9_answered kw_423 rfl rfl (Of.o (by assumption)) (by omega) rfl (Nat.le_of_ble_eq_true rfl) (p_answered (d - 1) (by omega) n ok _ hP9 _) (Nat.le_refl _) (Or.inl rfl) (fun r ok1 mem1 hq => ?_)
      obtain ⟨rfl, rfl, rfl⟩ := hq
      refine pw_iret dX9_back_56 rfl rfl ?_
      have hx1 := hRG1.2
      have e9 : rBack mem c = rSay (rSet (wr mem 101 c (mem 101 c - 1)) c (mem 102 (30 * c + (mem 101 c - 1))) 16) (mem 102 (30 * c + (mem 101 c - 1))) := by
        unfold rBack; (repeat' split) <;> first | rfl | (exfalso; omega) | contradiction
      rw [e9]
      have hR3 := RI_set hR1 (c := c) (by omega) (mem 102 (30 * c + (mem 101 c - 1)))
      refine ⟨rfl, rfl, RE_w (fun a a1 a2 => ?_) _, RG_st (RG_set hRG1.1 hR1 (by omega) hbc hq1 hq2) hR3.1 hR3.2.1 0⟩
      rw [hq1 a (by omega), ← hm1]; unfold kpO; rw [wr_a _ _ _ (by omega), wr_a _ _ _ (by omega)]
    · skip
      refine pw_aload_n 0 rfl dX9_back_31 rfl ?_
      refine pw_bipush dX9_back_32 (by decide) ?_
      refine pw_callV (d' := d - 1) (As := [_]) (ci := 9) dX9_back_34 ok_X9_refused kw_406 rfl rfl (Of.o (by assumption)) (by omega) rfl (Nat.le_of_ble_eq_true rfl) (p_refused (d - 1) (by omega) n ok _ hP9 _ (by omega)) (Nat.le_refl _) (Or.inl rfl) (fun r ok1 mem1 hq => ?_)
      obtain ⟨rfl, rfl, rfl⟩ := hq
      refine pw_iret dX9_back_37 rfl rfl ?_
      have e9 : rBack mem c = rRef mem (-4) := by
        unfold rBack; (repeat' split) <;> first | rfl | (exfalso; omega) | contradiction
      rw [e9]; exact ⟨rfl, rfl, RE1 _ _, RG_st hG hIO hKO _⟩
  · skip
    rw [bz_0] at c4
    refine pw_aload_n 0 rfl dX9_back_7 rfl ?_
    refine pw_bipush dX9_back_8 (by decide) ?_
    refine pw_callV (d' := d - 1) (As := [_]) (ci := 9) dX9_back_10 ok_X9_refused kw_406 rfl rfl (Of.o (by assumption)) (by omega) rfl (Nat.le_of_ble_eq_true rfl) (p_refused (d - 1) (by omega) n ok _ hP9 _ (by omega)) (Nat.le_refl _) (Or.inl rfl) (fun r ok1 mem1 hq => ?_)
    obtain ⟨rfl, rfl, rfl⟩ := hq
    refine pw_iret dX9_back_13 rfl rfl ?_
    have e9 : rBack mem c = rRef mem (-2) := by
      unfold rBack; (repeat' split) <;> first | rfl | (exfalso; omega) | contradiction
    rw [e9]; exact ⟨rfl, rfl, RE1 _ _, RG_st hG hIO hKO _⟩
