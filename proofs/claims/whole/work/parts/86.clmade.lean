/-! ===== chests made by a number ===== -/
def oB (A A2 : pM) (c : Int) : Prop := (∀ j, (j < 4 * c ∨ 4 * c + 4 ≤ j) → A2 89 j = A 89 j) ∧ (∀ a, 90 ≤ a → a ≤ 93 → ∀ j, (j < 16 * c ∨ 16 * c + 16 ≤ j) → A2 a j = A a j) ∧ (∀ j, j ≠ c → A2 94 j = A 94 j) ∧ (∀ a, 95 ≤ a → a ≤ 97 → ∀ j, (j < 40 * c ∨ 40 * c + 40 ≤ j) → A2 a j = A a j) ∧ ∀ j, (j < 240 * c ∨ 240 * c + 240 ≤ j) → A2 98 j = A 98 j
theorem oB.tr {A A2 A3 : pM} {c : Int} (h : oB A A2 c) (g : oB A2 A3 c) : oB A A3 c := ⟨fun j hj => (g.1 j hj).trans (h.1 j hj), fun a a1 a2 j hj => (g.2.1 a a1 a2 j hj).trans (h.2.1 a a1 a2 j hj), fun j hj => (g.2.2.1 j hj).trans (h.2.2.1 j hj), fun a a1 a2 j hj => (g.2.2.2.1 a a1 a2 j hj).trans (h.2.2.2.1 a a1 a2 j hj), fun j hj => (g.2.2.2.2 j hj).trans (h.2.2.2.2 j hj)⟩
theorem oB.rf (A : pM) (c : Int) : oB A A c := ⟨fun _ _ => rfl, fun _ _ _ _ _ => rfl, fun _ _ => rfl, fun _ _ _ _ _ => rfl, fun _ _ => rfl⟩
theorem oB_by0 (A : pM) (c x : Int) : oB A (by0 A c x) c := by
  have e : ∀ a, a ≠ 88 → a ≠ 94 → a ≠ 90 → a ≠ 89 → by0 A c x a = A a := fun a a1 a2 a3 a4 => by unfold by0; rw [wr_a _ _ _ a1, wr_a _ _ _ a2, fiM_a _ _ _ _ a3, bcM_a _ _ _ _ a4]
  refine ⟨fun j hj => ?_, fun a a1 a2 j hj => ?_, fun j hj => ?_, fun a a1 a2 j hj => by rw [e a (by omega) (by omega) (by omega) (by omega)], fun j hj => by rw [e 98 (by omega) (by omega) (by omega) (by omega)]⟩
  · unfold by0; rw [wr_a _ _ _ (by omega), wr_a _ _ _ (by omega), fiM_a _ _ _ _ (by omega)]; unfold bcM; rw [if_neg (by omega)]
  · by_cases q : a = 90
    · subst q; unfold by0; rw [wr_a _ _ _ (by omega), wr_a _ _ _ (by omega)]; unfold fiM; rw [if_neg (by omega), bcM_a _ _ _ _ (by omega)]
    · rw [e a (by omega) (by omega) q (by omega)]
  · unfold by0; rw [wr_a _ _ _ (by omega), wr_k _ _ _ _ hj, fiM_a _ _ _ _ (by omega), bcM_a _ _ _ _ (by omega)]
theorem oB_stP (A : pM) (c k : Int) (hk : 0 ≤ k ∧ k < 4) : oB A (stP A c k) c := by
  have e := stP_94 A c k
  refine ⟨fun j _ => by rw [e 89 (by omega) (by omega)], fun a a1 a2 j hj => ?_, fun j _ => by rw [e 94 (by omega) (by omega)], fun a a1 a2 j _ => by rw [e a (by omega) (by omega)], fun j _ => by rw [e 98 (by omega) (by omega)]⟩
  have := sDrw_ran hk.1 hk.2
  unfold stP; rw [rSt_v, if_neg (by omega), wr_a _ _ _ (by omega)]
theorem oB_nst (A : pM) (c : Int) (k : Nat) (hk : k ≤ 4) : oB A (nst A c k) c := by
  induction k with
  | zero => exact oB.rf A c
  | succ k ih => exact (ih (by omega)).tr (oB_stP _ c k (by omega))
theorem cdN_le {A : pM} {c : Int} (h : pPK A c) (k : Nat) : cdN A c k ≤ 4 ∨ A 90 (16 * c + cdL A k) = -1 := by
  unfold cdN
  split
  · exact Or.inl (by omega)
  · have r : ∀ x : Int, sDrw (dv x 4) = 0 ∨ sDrw (dv x 4) = 1 ∨ sDrw (dv x 4) = 4 ∨ sDrw (dv x 4) = 5 := fun x => sDrw_ran (by unfold dv; exact Int.emod_nonneg _ (by omega)) (by unfold dv; exact Int.emod_lt_of_pos _ (by omega))
    have q := r (dNx (cdX A k))
    have hL : 0 ≤ cdL A k ∧ cdL A k ≤ 15 := by unfold cdL; omega
    rcases h.2 (cdL A k) hL.1 hL.2 with z | z
    · exact Or.inr z
    · exact Or.inl z.2.2.1.2
theorem cdN_le2 {A : pM} {c : Int} (h : pPK A c) (hn : nPK A c 4) (k : Nat) : cdN A c k ≤ 4 := by
  rcases cdN_le h k with z | z
  · exact z
  · exfalso
    refine hn (dv (dNx (cdX A k)) 4) ?_ ?_ z
    · unfold dv; exact Int.emod_nonneg _ (by omega)
    · unfold dv; exact Int.emod_lt_of_pos _ (by omega)
theorem oB_trG (A : pM) (c q : Int) (k : Nat) (N : Int) (i : Nat) (hq : 240 * c ≤ 6 * q ∧ 6 * q + i ≤ 240 * c + 240) : oB A (trG A q k N i) c := by
  have e := trG_a A q k N i
  refine ⟨fun j _ => by rw [e 89 (by omega) (by omega)], fun a a1 a2 j hj => by rw [e a (by omega) (by omega)], fun j _ => by rw [e 94 (by omega) (by omega)], fun a a1 a2 j _ => by rw [e a (by omega) (by omega)], fun j hj => ?_⟩
  rcases trG_98 A q k N i j with z | z
  · exact z
  · exfalso; omega
theorem oB_more (A : pM) (c a l x : Int) (h0 : 0 ≤ A 94 c ∧ A 94 c < 40) : oB A (rMore A c a l x) c := by
  have e0 : ∀ q, q ≠ 94 → q ≠ 95 → q ≠ 96 → q ≠ 97 → q ≠ 98 → rMore A c a l x q = A q := fun q q1 q2 q3 q4 q5 => by unfold rMore; rw [wr_a _ _ _ q1, fiM_a _ _ _ _ q5, wr_a _ _ _ q4, wr_a _ _ _ q3, wr_a _ _ _ q2]
  refine ⟨fun j hj => by rw [e0 89 (by omega) (by omega) (by omega) (by omega) (by omega)], fun a a1 a2 j hj => by rw [e0 a (by omega) (by omega) (by omega) (by omega) (by omega)], fun j hj => ?_, fun q q1 q2 j hj => ?_, fun j hj => ?_⟩
  · unfold rMore; rw [wr_k _ _ _ _ hj, fiM_a _ _ _ _ (by omega), wr_a _ _ _ (by omega), wr_a _ _ _ (by omega), wr_a _ _ _ (by omega)]
  · unfold rMore; rw [wr_a _ _ _ (by omega), fiM_a _ _ _ _ (by omega), wr_k _ _ _ _ (by omega), wr_k _ _ _ _ (by omega), wr_k _ _ _ _ (by omega)]
  · unfold rMore; rw [wr_a _ _ _ (by omega)]
    unfold fiM; rw [if_neg (by omega), wr_a _ _ _ (by omega), wr_a _ _ _ (by omega), wr_a _ _ _ (by omega)]
theorem oB_w (A : pM) (c k x : Int) : oB A (wr A 88 k x) c := ⟨fun _ _ => by rw [wr_a _ _ _ (by omega)], fun a a1 a2 _ _ => by rw [wr_a _ _ _ (by omega)], fun _ _ => by rw [wr_a _ _ _ (by omega)], fun a a1 a2 _ _ => by rw [wr_a _ _ _ (by omega)], fun _ _ => by rw [wr_a _ _ _ (by omega)]⟩
theorem oB_cdS {A : pM} {c : Int} (h : pPK A c) (hn : nPK A c 4) (k : Nat) (hk : k < 6) (h94 : A 94 c = k) : oB A (cdS A c k) c := by
  have h4 := cdN_le2 h hn k
  have w94 : ∀ x, wr A 88 21 x 94 c = A 94 c := fun x => by rw [wr_a _ _ _ (by omega)]
  have g : oB A (cdM A c k) c := (oB_w A c 21 (dNx (cdX A k))).tr (oB_more _ c _ _ _ (by rw [w94]; omega))
  exact g.tr (oB_trG _ c _ k _ _ (by omega))
theorem oB_byM (A : pM) (c x : Int) : oB A (byM A c x) c := by
  have h0 := by0_ok A c x
  have h1 := nst_ok h0.1 4 (by omega)
  have g : ∀ k : Nat, k ≤ 6 → oB A (ncd (nst (by0 A c x) c 4) c k) c := fun k hk => by
    induction k with
    | zero => exact (oB_by0 A c x).tr (oB_nst _ c 4 (by omega))
    | succ k ih =>
      have h2 := ncd_ok h1.1 h1.2 (by rw [nst_94 _ _ _ _ (by omega) (by omega)]; exact h0.2) k (by omega)
      exact (ih (by omega)).tr (oB_cdS h2.1 h2.2.1 k (by omega) h2.2.2.1)
  exact g 6 (by omega)
/-- what tries leave of the reference's memory -/
def mkI (A B : pM) (c : Int) : Prop := (∀ a, (98 < a ∧ a < 108) ∨ (114 < a ∧ a ≤ 122) → B a = A a) ∧ oB A B c ∧ (∀ j, (j < 31 ∨ 44 < j) → j ≠ 3 → j ≠ 21 → B 88 j = A 88 j) ∧ B 88 3 = 0
theorem mkI.rf {A : pM} (c : Int) (h : A 88 3 = 0) : mkI A A c := ⟨fun _ _ => rfl, oB.rf A c, fun _ _ _ _ => rfl, h⟩
theorem mkS_m {A B : pM} {c y : Int} (h : mkI A B c) (h99 : 0 ≤ A 99 c ∧ A 99 c ≤ 99) (h100 : -1 ≤ A 100 c ∧ A 100 c ≤ 15) : mkI A (mkS B c y) c ∧ cIn (byM B c y) c ∧ mkS B c y 88 44 = 0 ∧ (∀ a, 89 ≤ a → a ≤ 107 → mkS B c y a = byM B c y a) ∧ GI (bgB (byM B c y) c) c (bgB (byM B c y) c) ∧ cOkR (bgB (byM B c y) c) c := by
  have v := mkS_v B c y
  have hI : cIn (byM B c y) c := (cIn_ncd (A := B) (c := c) (x := y) (by rw [h.1 99 (by omega)]; exact h99) (by rw [h.1 100 (by omega)]; exact h100) 6 (by omega)).1
  obtain ⟨o1, o2⟩ := bgB_ok hI.ok
  have gv := goR_v (k := 1024) o1 o2
  have bv := bgB_v (byM B c y) c
  have e88 : ∀ j, (j < 31 ∨ 44 < j) → j ≠ 3 → j ≠ 21 → mkS B c y 88 j = B 88 j := fun j j1 j2 j3 => by
    unfold mkS
    rw [gv.2.1 j j2 (by omega) (by omega) (by omega) (by omega), bv.2.2.2.2.2.2.2 j j2 (by omega) (by omega) (by omega) (by omega) (by omega) (by omega) (by omega), byM_88 _ _ _ _ j3]
  refine ⟨⟨fun a ha => (v.2.2.1 a (by omega)).trans (h.1 a ha), h.2.1.tr ((oB_byM B c y).tr ?_), fun j j1 j2 j3 => (e88 j j1 j2 j3).trans (h.2.2.1 j j1 j2 j3), gv.2.2.1⟩, hI, gv.2.2.2.1, fun a a1 a2 => ?_, o2, o1⟩
  · have e : ∀ a, 89 ≤ a → a ≤ 98 → mkS B c y a = byM B c y a := v.2.2.2.1
    exact ⟨fun j _ => by rw [e 89 (by omega) (by omega)], fun a a1 a2 j _ => by rw [e a (by omega) (by omega)], fun j _ => by rw [e 94 (by omega) (by omega)], fun a a1 a2 j _ => by rw [e a (by omega) (by omega)], fun j _ => by rw [e 98 (by omega) (by omega)]⟩
  · unfold mkS; rw [gv.1 a (by omega) (by omega), bv.1 a (by omega) (by omega)]
theorem oB.x {A B : pM} {c : Int} (h : oB A B c) (e : ∀ a, 99 ≤ a → a ≤ 102 → B a = A a) (c' : Int) (q : c' ≠ c) : chX A B c' := chX_of h.1 h.2.1 (fun a ha j hj => by
  rcases ha with z | z | z
  · subst z; exact h.2.2.1 j hj
  · subst z; rw [e 99 (by omega) (by omega)]
  · subst z; rw [e 100 (by omega) (by omega)]) h.2.2.2.1 h.2.2.2.2 (e _ (by omega) (by omega)) (e _ (by omega) (by omega)) c' q
/-- behind the tries, none of them as asked -/
def mkF (A B : pM) (c : Int) : pM := blkF (wr (wr B 88 31 0) 88 32 0) (chB A c) c
/-- behind the tries, the last as asked -/
def mkT (B : pM) (c : Int) : pM := wr (wr (wr B 88 31 0) 88 32 0) 101 c 0
theorem mkF_v {A B : pM} {c : Int} (h : mkI A B c) : (∀ a, 89 ≤ a → a ≤ 103 → mkF A B c a = A a) ∧ (∀ a, (103 < a ∧ a < 108) ∨ (114 < a ∧ a ≤ 122) → mkF A B c a = A a) ∧ (∀ j, (j < 31 ∨ 44 < j) → j ≠ 3 → j ≠ 21 → mkF A B c 88 j = A 88 j) ∧ mkF A B c 88 3 = 0 ∧ mkF A B c 88 31 = 0 ∧ mkF A B c 88 32 = 0 ∧ mkF A B c 88 44 = B 88 44 := by
  obtain ⟨v0, v1, v2, v3, v4, v5⟩ := blkF_v (wr (wr B 88 31 0) 88 32 0) (chB A c) c
  have e0 : ∀ a, (a < 89 ∨ 98 < a) → a ≠ 88 → mkF A B c a = B a := fun a ha q => by unfold mkF; rw [v0 a ha, wr_a _ _ _ q, wr_a _ _ _ q]
  have e8 : ∀ j, mkF A B c 88 j = wr (wr B 88 31 0) 88 32 0 88 j := fun j => by unfold mkF; rw [v0 88 (by omega)]
  have s2 : ∀ a j, sta a c = 16 * c → chB A c a (j - 16 * c) = A a j := fun a j e => by show A a (sta a c + (j - 16 * c)) = A a j; rw [e]; congr 1; omega
  have s4 : ∀ a j, sta a c = 40 * c → chB A c a (j - 40 * c) = A a j := fun a j e => by show A a (sta a c + (j - 40 * c)) = A a j; rw [e]; congr 1; omega
  have w : ∀ a, a ≠ 88 → wr (wr B 88 31 0) 88 32 0 a = B a := fun a q => by rw [wr_a _ _ _ q, wr_a _ _ _ q]
  refine ⟨fun a a1 a2 => ?_, fun a ha => (e0 a (by omega) (by omega)).trans (h.1 a (by omega)), fun j j1 j2 j3 => ?_, ?_, ?_, ?_, ?_⟩
  · funext j
    rcases (show a = 89 ∨ (90 ≤ a ∧ a ≤ 93) ∨ a = 94 ∨ (95 ≤ a ∧ a ≤ 97) ∨ a = 98 ∨ 98 < a by omega) with q | q | q | q | q | q
    · subst q; unfold mkF; rw [v1]
      by_cases z : 4 * c ≤ j ∧ j < 4 * c + 4
      · rw [if_pos z]; show A 89 (4 * c + (j - 4 * c)) = A 89 j; congr 1; omega
      · rw [if_neg z, w 89 (by omega)]; exact h.2.1.1 j (by omega)
    · unfold mkF; rw [v2 a q.1 q.2]
      by_cases z : 16 * c ≤ j ∧ j < 16 * c + 16
      · rw [if_pos z]; refine s2 a j ?_
        rcases (show a = 90 ∨ a = 91 ∨ a = 92 ∨ a = 93 by omega) with y | y | y | y <;> (subst y; rfl)
      · rw [if_neg z, w a (by omega)]; exact h.2.1.2.1 a q.1 q.2 j (by omega)
    · subst q; unfold mkF; rw [v3]
      by_cases z : c ≤ j ∧ j < c + 1
      · rw [if_pos z]; show A 94 (c + (j - c)) = A 94 j; congr 1; omega
      · rw [if_neg z, w 94 (by omega)]; exact h.2.1.2.2.1 j (by omega)
    · unfold mkF; rw [v4 a q.1 q.2]
      by_cases z : 40 * c ≤ j ∧ j < 40 * c + 40
      · rw [if_pos z]; refine s4 a j ?_
        rcases (show a = 95 ∨ a = 96 ∨ a = 97 by omega) with y | y | y <;> (subst y; rfl)
      · rw [if_neg z, w a (by omega)]; exact h.2.1.2.2.2.1 a q.1 q.2 j (by omega)
    · subst q; unfold mkF; rw [v5]
      by_cases z : 240 * c ≤ j ∧ j < 240 * c + 240
      · rw [if_pos z]; show A 98 (240 * c + (j - 240 * c)) = A 98 j; congr 1; omega
      · rw [if_neg z, w 98 (by omega)]; exact h.2.1.2.2.2.2 j (by omega)
    · rw [e0 a (by omega) (by omega), h.1 a (by omega)]
  · rw [e8, wr_k _ _ _ _ (by omega), wr_k _ _ _ _ (by omega)]; exact h.2.2.1 j j1 j2 j3
  · rw [e8, wr_k _ _ _ _ (by omega), wr_k _ _ _ _ (by omega)]; exact h.2.2.2
  · rw [e8, wr_k _ _ _ _ (by omega), wr_s]
  · rw [e8, wr_s]
  · rw [e8, wr_k _ _ _ _ (by omega), wr_k _ _ _ _ (by omega)]
theorem RI_mk {A A2 : pM} (h : RI A) (hI : IOk A2) (hK : KOk A2) (e6 : A2 106 = A 106) (e119 : A2 119 = A 119) (kA : ∀ j, (j < 31 ∨ 44 < j) → j ≠ 3 → j ≠ 21 → A2 88 j = A 88 j) (h3 : A2 88 3 = 0) (h31 : A2 88 31 = 0) (h44 : A2 88 44 = 0) : RI A2 :=
  ⟨hI, hK, by rw [kA 19 (by omega) (by omega) (by omega)]; exact h.2.2.1, h3, by rw [kA 24 (by omega) (by omega) (by omega), e6]; exact h.2.2.2.2.1, fun z => absurd h31 z, fun z => absurd h44 z, fun z => absurd h31 z, by rw [e119]; exact h.2.2.2.2.2.2.2.2⟩
theorem RI_mkF {A B : pM} {c : Int} (h : RI A) (hm : mkI A B c) (h44 : B 88 44 = 0) : RI (mkF A B c) := by
  obtain ⟨v1, v2, v3, v4, v5, v6, v7⟩ := mkF_v hm
  exact RI_mk h (IOk_c h.1 (fun a a1 a2 => v1 a a1 (by omega))) (KOk_c h.2.1 (v1 _ (by omega) (by omega)) (v1 _ (by omega) (by omega))) (v2 _ (by omega)) (v2 _ (by omega)) v3 v4 v5 (v7.trans h44)
theorem mkT_v {A B : pM} {c : Int} (h : mkI A B c) : (∀ a, a ≠ 88 → a ≠ 101 → mkT B c a = B a) ∧ (∀ j, (j < 31 ∨ 44 < j) → j ≠ 3 → j ≠ 21 → mkT B c 88 j = A 88 j) ∧ mkT B c 88 3 = 0 ∧ mkT B c 88 31 = 0 ∧ mkT B c 88 32 = 0 ∧ mkT B c 88 44 = B 88 44 ∧ ∀ j, mkT B c 101 j = if j = c then 0 else A 101 j := by
  have e8 : ∀ j, mkT B c 88 j = wr (wr B 88 31 0) 88 32 0 88 j := fun j => by unfold mkT; rw [wr_a _ _ _ (by omega)]
  refine ⟨fun a a1 a2 => by unfold mkT; rw [wr_a _ _ _ a2, wr_a _ _ _ a1, wr_a _ _ _ a1], fun j j1 j2 j3 => ?_, ?_, ?_, ?_, ?_, fun j => ?_⟩
  · rw [e8, wr_k _ _ _ _ (by omega), wr_k _ _ _ _ (by omega)]; exact h.2.2.1 j j1 j2 j3
  · rw [e8, wr_k _ _ _ _ (by omega), wr_k _ _ _ _ (by omega)]; exact h.2.2.2
  · rw [e8, wr_k _ _ _ _ (by omega), wr_s]
  · rw [e8, wr_s]
  · rw [e8, wr_k _ _ _ _ (by omega), wr_k _ _ _ _ (by omega)]
  · unfold mkT
    by_cases q : j = c
    · rw [if_pos q, q, wr_s]
    · rw [if_neg q, wr_k _ _ _ _ q, wr_a _ _ _ (by omega), wr_a _ _ _ (by omega), h.1 101 (by omega)]
theorem mkT_x {A B : pM} {c : Int} (h : mkI A B c) (c' : Int) (q : c' ≠ c) : chX A (mkT B c) c' := by
  obtain ⟨t1, t2, t3, t4, t5, t6, t7⟩ := mkT_v h
  have x := oB.x h.2.1 (fun a a1 a2 => h.1 a (by omega)) c' q
  exact ⟨fun r r1 r2 => by rw [t1 89 (by omega) (by omega)]; exact x.1 r r1 r2, fun a a1 a2 s s1 s2 => by rw [t1 a (by omega) (by omega)]; exact x.2.1 a a1 a2 s s1 s2, by rw [t1 94 (by omega) (by omega)]; exact x.2.2.1, fun a a1 a2 s s1 s2 => by rw [t1 a (by omega) (by omega)]; exact x.2.2.2.1 a a1 a2 s s1 s2, fun j j1 j2 => by rw [t1 98 (by omega) (by omega)]; exact x.2.2.2.2.1 j j1 j2, by rw [t1 99 (by omega) (by omega)]; exact x.2.2.2.2.2.1, by rw [t1 100 (by omega) (by omega)]; exact x.2.2.2.2.2.2.1, by rw [t7, if_neg q], fun i i1 i2 => by rw [t1 102 (by omega) (by omega)]; exact x.2.2.2.2.2.2.2.2 i i1 i2⟩
theorem RI_mkT {A B : pM} {c : Int} (h : RI A) (hc : 0 ≤ c ∧ c ≤ 2) (hm : mkI A B c) (hI : cIn B c) (h44 : B 88 44 = 0) : RI (mkT B c) := by
  obtain ⟨t1, t2, t3, t4, t5, t6, t7⟩ := mkT_v hm
  refine RI_mk h (IOk_one h.1 (cIn_c (fun a a1 a2 => t1 a (by omega) (by omega)) hI) (fun c' _ _ q => mkT_x hm c' q)) (KOk_one h.2.1 ?_ (fun c' _ _ q => mkT_x hm c' q)) ((t1 _ (by omega) (by omega)).trans (hm.1 _ (by omega))) ((t1 _ (by omega) (by omega)).trans (hm.1 _ (by omega))) t2 t3 t4 (t6.trans h44)
  have z : mkT B c 101 c = 0 := by rw [t7, if_pos rfl]
  rw [z]; exact ⟨by omega, by omega, fun j j1 j2 => absurd j2 (by omega)⟩
