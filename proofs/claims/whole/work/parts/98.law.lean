/-! ===== the law: what holds between two calls ===== -/
def INV (n : Nat) (ok : pO) (mem : pM) : Prop := ClUp n ok ∧ RefUp n ok ∧ RG mem mem n ∧ RI mem
theorem INV_n {n : Nat} {ok : pO} {A m1 m2 : pM} (hU : ClUp n ok) (hRU : RefUp n ok) (hG : RG A m1 n) (hR : RI A) (e1 : ∀ a, 89 ≤ a → a ≤ 122 → a ≠ 104 → a ≠ 105 → a ≠ 120 → a ≠ 121 → m2 a = A a) (e2 : ∀ k, k ≠ 23 → m2 88 k = A 88 k) (e3 : ∀ a, a < 88 ∨ 122 < a → m2 a = m1 a) : INV n ok m2 := by
  refine ⟨hU, hRU, RG_m (RG_A hG ⟨fun a a1 a2 => e1 a a1 (by omega) (by omega) (by omega) (by omega) (by omega), e1 _ (by omega) (by omega) (by omega) (by omega) (by omega) (by omega), fun a a1 a2 => e1 a (by omega) (by omega) (by omega) (by omega) (by omega) (by omega), e1 _ (by omega) (by omega) (by omega) (by omega) (by omega) (by omega), e1 _ (by omega) (by omega) (by omega) (by omega) (by omega) (by omega), fun k _ q _ _ => e2 k q⟩ hR.1 hR.2.1) e3, ?_⟩
  exact RI_n hR (fun a a1 a2 => e1 a a1 (by omega) (by omega) (by omega) (by omega) (by omega)) (e1 _ (by omega) (by omega) (by omega) (by omega) (by omega) (by omega)) (e1 _ (by omega) (by omega) (by omega) (by omega) (by omega) (by omega)) (fun a a1 a2 => e1 a (by omega) (by omega) (by omega) (by omega) (by omega) (by omega)) (by rw [e2 19 (by omega)]; exact hR.2.2.1) (fun k hk => e2 k (by omega))
theorem INV_ov {n : Nat} {ok : pO} {A m1 : pM} (hU : ClUp n ok) (hRU : RefUp n ok) (hG : RG A m1 n) (hR : RI A) : INV n ok (ov A m1) := INV_n hU hRU hG hR (fun a _ _ _ _ _ _ => ov_in _ _ (by omega) (by omega)) (fun k _ => by rw [ov_in _ _ (by omega) (by omega)]) (fun a ha => ov_out _ _ ha)
theorem RI_re {m m1 : pM} (h : RI m) (e : RE m m1) : RI m1 := RI_n h (fun a a1 a2 => e a (by omega) (by omega)) (e _ (by omega) (by omega)) (e _ (by omega) (by omega)) (fun a a1 a2 => e a (by omega) (by omega)) (by rw [e 88 (by omega) (by omega)]; exact h.2.2.1) (fun k hk => by rw [e 88 (by omega) (by omega)])
/-! rows of the law -/
def miL (nm : String) (L : Nat) (xs : Nat → Int) : MI := (⟨RL, nm, "([I)Z"⟩, cL_law, 4, some .boolean, L, xs)
section PL
variable {mi : MI} {d nf n0 : Nat} {Q : pQt} {pc : Nat} {ls : List (Nat × pV)} {st : List pV} {n : Nat} {ok : pO} {mem : pM}
theorem pw_eqx {x off : Int} (tgt : Nat) (ht : (pc : Int) + off = (tgt : Int)) (hd : decode (mB mi) pc = .ok (.if_icmp .eq off, 3)) (k : PW mi d nf n0 Q tgt ls st n ok mem) : PW mi d nf n0 Q pc ls (vi x :: vi x :: st) n ok mem := by
  intro p l e R s m args below meth c Z E ad0 H locs ad lsr C hW hS hv h0 h1 hag
  exact lv_icmp_eq C.1 C.2.1 hd ht (fun q => k p l e R s m args below meth c Z E ad0 H locs ad lsr C hW hS hv h0 h1 hag) (fun q => absurd rfl q)
theorem pw_lcmpx {x : Int} (hd : decode (mB mi) pc = .ok (.lcmp, 1)) (k : PW mi d nf n0 Q (pc + 1) ls (vi 0 :: st) n ok mem) : PW mi d nf n0 Q pc ls (vl x :: vl x :: st) n ok mem := by
  intro p l e R s m args below meth c Z E ad0 H locs ad lsr C hW hS hv h0 h1 hag
  refine W.lcmp C.1 C.2.1 hd ?_
  have e1 : lg_cmp (Int64.ofInt x) (Int64.ofInt x) = Int32.ofInt 0 := by
    unfold lg_cmp
    simp
  rw [e1]
  exact k p l e R s m args below meth c Z E ad0 H locs ad lsr C hW hS hv h0 h1 hag
end PL
/-! what the reference keeps, the calls that build -/
theorem RI_row {A : pM} (h : RI A) (c w k : Int) : RI (rRow A c w k).2 := by
  unfold rRow; split
  · exact RI_st h _
  · split
    · exact RI_st h _
    · split
      · exact RI_st (RI_not h _) _
      · have hB : BdX A (layA A c w k) c := Bd_lay h (by omega) (by omega) (by omega)
        exact RI_st (RI_bd h (by omega) hB) _
theorem RI_part {A : pM} (h : RI A) (c s k p e : Int) : RI (rPart A c s k p e).2 := by
  unfold rPart
  obtain ⟨M, hM⟩ : ∃ M, M = (if k = 5 then (1 : Int) else 6) := ⟨_, rfl⟩
  rw [← hM]
  split
  · exact RI_ref h _
  · split
    · exact RI_ref h _
    · split
      · exact RI_met h _
      · split
        · exact RI_met h _
        · split
          · exact RI_ref h _
          · have hc : 0 ≤ c ∧ c ≤ 2 := by omega
            have hI := h.1 c hc.1 hc.2
            have hp : 1 ≤ p ∧ p ≤ (if k = 5 then 1 else 6) := by rw [← hM]; omega
            have hI2 : cIn (rStand A (16 * c + s) k p e) c := cIn_put hI (by omega) (by omega) hp (by omega) (by omega) (by rw [pW_put (by omega) (by omega) 16, if_pos (by omega), Int.mul_comm]; omega)
            exact RI_say (RI_bd h hc (Bd_put (by omega) hI2)) _
theorem RI_take {A : pM} (h : RI A) (c s : Int) : RI (rTake A c s).2 := by
  unfold rTake; split
  · exact RI_ref h _
  · split
    · exact RI_ref h _
    · split
      · exact RI_met h _
      · exact RI_say (RI_bd h (by omega) (Bd_rem h (by omega) (by omega))) _
theorem RI_cond {A : pM} (h : RI A) (c a l k : Int) : RI (rCond A c a l k).2 := by
  unfold rCond; split
  · exact RI_ref h _
  · split
    · exact RI_ref h _
    · split
      · exact RI_met h _
      · split
        · exact RI_ref h _
        · have hc : 0 ≤ c ∧ c ≤ 2 := by omega
          have hI := h.1 c hc.1 hc.2
          have hn := hI.2.2.1.1
          have h40 : A 94 c < 40 := by omega
          exact RI_say (RI_bd h hc (Bd_more h hc (cIn_more hI (by omega) (by omega) (by omega) h40) h40)) _
theorem RI_truth {A : pM} (h : RI A) (c k i v : Int) : RI (rTruth A c k i v).2 := by
  unfold rTruth; split
  · exact RI_ref h _
  · split
    · exact RI_met h _
    · split
      · exact RI_met h _
      · rename_i q1 q2 q3
        have hc : 0 ≤ c ∧ c ≤ 2 := by omega
        have hI := h.1 c hc.1 hc.2
        have hn := hI.2.2.1.1
        have hm := (hI.2.2.1.2 k (by omega) (by omega)).2.2.1
        exact RI_say (RI_bd h hc (Bd_98 (cIn_tr hI (by split <;> omega)) (fun a a1 _ => wr_a _ _ _ a1) (fun j hj => wr_k _ _ _ _ (by omega)))) _
theorem RI_cpT {A : pM} (h : RI A) (c a i t j k : Int) : RI (rCpT A c a i t j k).2 := by
  unfold rCpT; split
  · exact RI_ref h _
  · split
    · exact RI_met h _
    · split
      · exact RI_met h _
      · rename_i q1 q2 q3
        have hc : 0 ≤ c ∧ c ≤ 2 := by omega
        have hI := h.1 c hc.1 hc.2
        have hn := hI.2.2.1.1
        have ma := (hI.2.2.1.2 a (by omega) (by omega)).2.2.1
        have mt := (hI.2.2.1.2 t (by omega) (by omega)).2.2.1
        have hIX : cIn (bcM A 98 (6 * (40 * c + a) + i) k (fun u => A 98 (6 * (40 * c + t) + j + u))) c := cIn_cp hI (by omega) (by omega) (by omega) (by omega) (by omega) (by omega)
        have hx98 : ∀ q, bcM (bcM A 104 0 k (fun u => A 98 (6 * (40 * c + t) + j + u))) 98 (6 * (40 * c + a) + i) k (fun u => A 98 (6 * (40 * c + t) + j + u)) 98 q = bcM A 98 (6 * (40 * c + a) + i) k (fun u => A 98 (6 * (40 * c + t) + j + u)) 98 q := fun q => by
          unfold bcM; (repeat' split) <;> first | rfl | (exfalso; omega)
        have hxa : ∀ q, q ≠ 104 → bcM (bcM A 104 0 k (fun u => A 98 (6 * (40 * c + t) + j + u))) 98 (6 * (40 * c + a) + i) k (fun u => A 98 (6 * (40 * c + t) + j + u)) q = bcM A 98 (6 * (40 * c + a) + i) k (fun u => A 98 (6 * (40 * c + t) + j + u)) q := fun q q1 => by
          by_cases w : q = 98
          · rw [w]; funext y; exact hx98 y
          · rw [bcM_a _ _ _ _ w, bcM_a _ _ _ _ q1, bcM_a _ _ _ _ w]
        refine RI_say (RI_bd h hc (Bd_98 (cIn_w hIX hxa) (fun q q1 q2 => by rw [bcM_a _ _ _ _ q1, bcM_a _ _ _ _ q2]) (fun q hq => ?_))) _
        rw [hx98]; unfold bcM; rw [if_neg (by omega)]
theorem RI_clear {A : pM} (h : RI A) (c : Int) : RI (rClear A c).2 := by
  unfold rClear; split
  · exact RI_ref h _
  · rw [chg_emp]; exact RI_say (RI_bd h (by omega) (Bd_emp h (by omega))) _
theorem RI_copy {A : pM} (h : RI A) (a b : Int) : RI (rCopy A a b).2 := by
  unfold rCopy; split
  · exact RI_ref h _
  · exact RI_say (RI_bd h (by omega) (Bd_copy h (by omega) (by omega))) _
/-! what is asked -/
theorem RI_told {A : pM} (h : RI A) (c s w : Int) : RI (rTold A c s w).2 := by unfold rTold; (repeat' split) <;> first | exact RI_ref h _ | exact RI_met h _ | exact RI_say h _
theorem RI_cTold {A : pM} (h : RI A) (c k w : Int) : RI (rCTold A c k w).2 := by unfold rCTold; (repeat' split) <;> first | exact RI_ref h _ | exact RI_say h _
theorem RI_product {A : pM} (h : RI A) (c : Int) : RI (rProduct A c).2 := by unfold rProduct; (repeat' split) <;> first | exact RI_ref h _ | exact RI_say h _
theorem RI_state {A : pM} (h : RI A) (c : Int) : RI (rState A c).2 := by unfold rState; (repeat' split) <;> first | exact RI_ref h _ | exact RI_say h _
theorem RI_attd {A : pM} (h : RI A) (w : Int) : RI (rAttd A w).2 := by unfold rAttd; (repeat' split) <;> first | exact RI_ref h _ | exact RI_say h _
theorem RI_searched {A : pM} (h : RI A) (w : Int) : RI (rSearched A w).2 := by unfold rSearched; (repeat' split) <;> first | exact RI_ref h _ | exact RI_say h _
theorem RI_ordered {A : pM} (h : RI A) (x : Int) : RI (rOrdered A x).2 := RI_say h _
theorem RI_layer {A : pM} (h : RI A) (x : Int) : RI (rLayer A x).2 := RI_say h _
theorem RI_shortest {A : pM} (h : RI A) : RI (rShortest A).2 := by unfold rShortest; split <;> first | exact RI_ref h _ | exact RI_say h _
theorem RI_way {A : pM} (h : RI A) (k : Int) : RI (rWay A k).2 := RI_say h _
theorem RI_along {A : pM} (h : RI A) (k : Int) : RI (rAlong A k).2 := RI_say h _
theorem RI_marked {A : pM} (h : RI A) (x : Int) : RI (rMarked A x).2 := by unfold rMarked; (repeat' split) <;> first | exact RI_ref h _ | exact RI_say h _
theorem RI_shown {A : pM} (h : RI A) (w : Int) : RI (rShown A w).2 := by unfold rShown; (repeat' split) <;> first | exact RI_ref h _ | exact RI_say h _
/-! what moves did, laid over -/
theorem vMem_ov {B M m9 : pM} {c : Int} {v : Int → Int} {ev : pEv} {z : Int} (h : vMem (ov B M) m9 c v ev z) : vMem B (ov m9 B) c v ev z := by
  obtain ⟨h1, h2, h3⟩ := h
  have s := nSame.e B ev
  refine ⟨fun a q => ?_, fun t t1 t2 => ?_, fun j hj => ?_⟩
  · by_cases w : 88 ≤ a ∧ a ≤ 122
    · rw [ov_in _ _ w.1 w.2, h1 a q, ov_ev, ov_wr _ _ _ _ (by omega) (by omega), ov_in _ _ w.1 w.2]
    · rw [ov_out _ _ (by omega), wr_a _ _ _ (by omega), s.1 a (by omega) (by omega)]
  · have := h2 t t1 t2
    show ov m9 B 92 _ = _
    rw [ov_in _ _ (by omega) (by omega)]; exact this
  · rw [ov_in _ _ (by omega) (by omega), h3 j hj, ov_in _ _ (by omega) (by omega)]
theorem vMem_out {B M m9 : pM} {c : Int} {v : Int → Int} {ev : pEv} {z : Int} (h : vMem (ov B M) m9 c v ev z) (a : Nat) (ha : a < 88 ∨ 122 < a) : m9 a = M a := by
  rw [h.1 a (by omega), ov_ev, ov_wr _ _ _ _ (by omega) (by omega), ov_out _ _ ha]
theorem t0_ov {m m1 : pM} (h : ov m m1 = m1) : wr m1 88 19 0 = ov (wr m 88 19 0) m1 := by
  rw [← ov_wr _ _ _ _ (by omega) (by omega), h]
/-! what the two sides answer alike -/
theorem INV_eq {n : Nat} {ok : pO} {A m1 m2 : pM} (hU : ClUp n ok) (hRU : RefUp n ok) (hG : RG A m1 n) (hR : RI A) (h : EQ aT (ov A m1) m2) : INV n ok m2 :=
  INV_n hU hRU hG hR (fun a a1 a2 _ a4 _ _ => (h.a a1 a2 a4).trans (ov_in _ _ (by omega) (by omega))) (fun k hk => (h.f hk).trans (by rw [ov_in _ _ (by omega) (by omega)])) (fun a ha => by
    funext k
    rw [h.2 a trivial (by omega) k (by omega), ov_out _ _ ha])
theorem TM_ov {m m1 m2 : pM} {s : Int} (h : TM s m1 m2) (e : RE m m1) : TM s m (ov m2 m) := by
  obtain ⟨t1, t2, t3, t4⟩ := h
  refine ⟨fun a a1 a2 => ?_, fun k k1 k2 => ?_, ?_, ?_⟩
  · by_cases w : 88 ≤ a ∧ a ≤ 122
    · rw [ov_in _ _ w.1 w.2, t1 a a1 a2, e a w.1 w.2]
    · rw [ov_out _ _ (by omega)]
  · rw [ov_in _ _ (by omega) (by omega), t2 k k1 k2, e 88 (by omega) (by omega)]
  · rw [ov_in _ _ (by omega) (by omega)]; exact t3
  · unfold HF rdR at t4 ⊢
    rw [ov_in _ _ (by omega) (by omega), ov_in _ _ (by omega) (by omega), ov_in _ _ (by omega) (by omega), ov_in _ _ (by omega) (by omega)]; exact t4
theorem INV_TM {n : Nat} {ok : pO} {m m1 m2 : pM} {s : Int} (hU : ClUp n ok) (hRU : RefUp n ok) (hRI : RI m) (e : RE m m1) (h : TM s m1 m2) (hG : ∀ A2, TM s m A2 → RG A2 m1 n) : INV n ok m2 := by
  have ht := TM_ov h e
  exact INV_n hU hRU (hG _ ht) (RI_TM hRI ht) (fun a _ _ _ _ _ _ => (ov_in _ _ (by omega) (by omega)).symm) (fun k _ => by rw [ov_in _ _ (by omega) (by omega)]) (fun a ha => h.1 a (by omega) (by omega))
theorem trap_u {A : pM} (hR : RI A) {f g : Int → Int} {x : Int} (hf : (A 88 31 ≠ 0 ∧ A 88 32 = 0 ∧ A 88 35 = A 88 34) → (0 ≤ x ∧ x ≤ 1023) → A 109 x ≠ -1 → SpF (rdR A) (A 111) (A 88 34) f) (hg : (A 88 31 ≠ 0 ∧ A 88 32 = 0 ∧ A 88 35 = A 88 34) → (0 ≤ x ∧ x ≤ 1023) → A 109 x ≠ -1 → SpF (rdR A) (A 111) (A 88 34) g) : rTrap A f x = rTrap A g x := by
  unfold rTrap
  by_cases h1 : A 88 31 ≠ 0 ∧ A 88 32 = 0 ∧ A 88 35 = A 88 34
  · have hn : ¬ ¬ (A 88 31 ≠ 0 ∧ A 88 32 = 0 ∧ A 88 35 = A 88 34) := fun z => z h1
    rw [if_neg hn, if_neg hn]
    by_cases h2 : ¬ (0 ≤ x ∧ x ≤ 1023) ∨ A 109 x = -1
    · rw [if_pos h2, if_pos h2]
    · rw [if_neg h2, if_neg h2]
      have hS := hR.2.2.2.2.2.1 h1.1
      rcases hS.2.2.1 x (by omega) (by omega) with z | z
      · exact absurd (Or.inr z) h2
      · rw [(hf h1 (by omega) (fun y => h2 (Or.inr y))).eq (hg h1 (by omega) (fun y => h2 (Or.inr y))) _ z.1 z.2.1]
  · rw [if_pos h1, if_pos h1]
theorem trN_u {f g : Int → Int} (k : Nat) (h : ∀ o : Int, 0 ≤ o → o < k → f o = g o) : trN f k = trN g k := by
  induction k with
  | zero => rfl
  | succ k ih =>
    show trN f k + _ = trN g k + _
    rw [ih (fun o o1 o2 => h o o1 (by omega)), h k (by omega) (by omega)]
theorem traps_u {A : pM} (hR : RI A) {f g : Int → Int} (hf : (A 88 31 ≠ 0 ∧ A 88 32 = 0 ∧ A 88 35 = A 88 34) → SpF (rdR A) (A 111) (A 88 34) f) (hg : (A 88 31 ≠ 0 ∧ A 88 32 = 0 ∧ A 88 35 = A 88 34) → SpF (rdR A) (A 111) (A 88 34) g) : rTraps A f = rTraps A g := by
  unfold rTraps
  by_cases h1 : A 88 31 ≠ 0 ∧ A 88 32 = 0 ∧ A 88 35 = A 88 34
  · rw [if_neg (fun z => z h1), if_neg (fun z => z h1)]
    have hS := (hR.2.2.2.2.2.1 h1.1).1
    exact trN_u _ (fun o o1 o2 => (hf h1).eq (hg h1) o o1 (by omega))
  · rw [if_pos h1, if_pos h1]
theorem fj_u {A : pM} {f g : Int → Int} {N o : Int} (hfg : ∀ q, 0 ≤ q → q < N → f q = g q) (ho : 0 ≤ o ∧ o < N) (hl : ∀ j, 0 ≤ j → j < 38 → A 114 (38 * o + j) = -1 ∨ (0 ≤ A 114 (38 * o + j) ∧ A 114 (38 * o + j) < N)) (k : Nat) (j : Int) (hj : 0 ≤ j ∧ j + k ≤ 38) : fj A f o k j = fj A g o k j := by
  induction k generalizing j with
  | zero => rfl
  | succ k ih =>
    rw [fj_s, fj_s, ih (j + 1) (by omega), hfg o ho.1 ho.2]
    rcases hl j hj.1 (by omega) with z | z
    · rw [if_neg (fun y => y.1 z), if_neg (fun y => y.1 z)]
    · rw [hfg _ z.1 z.2]
theorem hint_u {A : pM} (hR : RI A) {f g : Int → Int} {c : Int} (hf : (0 ≤ c ∧ c ≤ 2) → ((A 88 31 ≠ 0 ∧ A 88 32 = 0 ∧ A 88 35 = A 88 34) ∧ A 88 33 = c) → SpF (rdR A) (A 111) (A 88 34) f) (hg : (0 ≤ c ∧ c ≤ 2) → ((A 88 31 ≠ 0 ∧ A 88 32 = 0 ∧ A 88 35 = A 88 34) ∧ A 88 33 = c) → SpF (rdR A) (A 111) (A 88 34) g) : rHint A f c = rHint A g c := by
  unfold rHint
  by_cases h0 : 0 ≤ c ∧ c ≤ 2
  · have hn0 : ¬ ¬ (0 ≤ c ∧ c ≤ 2) := fun z => z h0
    rw [if_neg hn0, if_neg hn0]
    by_cases h1 : ¬ (A 88 31 ≠ 0 ∧ A 88 32 = 0 ∧ A 88 35 = A 88 34) ∨ A 88 33 ≠ c
    · rw [if_pos h1, if_pos h1]
    · rw [if_neg h1, if_neg h1]
      have hr : (A 88 31 ≠ 0 ∧ A 88 32 = 0 ∧ A 88 35 = A 88 34) ∧ A 88 33 = c := by omega
      have hS := hR.2.2.2.2.2.1 hr.1.1
      have hnr := num_ran (hR.1 c h0.1 h0.2).ok
      have he := (hf h0 hr).eq (hg h0 hr)
      by_cases h2 : A 109 (aNum A c 16) = -1
      · rw [if_pos (Or.inl h2), if_pos (Or.inl h2)]
      · rcases hS.2.2.1 (aNum A c 16) (by omega) (by omega) with z | z
        · exact absurd z h2
        · rw [he _ z.1 z.2.1, fj_u (N := A 88 34) he ⟨z.1, z.2.1⟩ (fun j j1 j2 => hS.2.2.2.2 _ (by omega) (by omega)) 38 0 (by omega)]
  · rw [if_pos h0, if_pos h0]
/-- moves, plays, tries -/
theorem INV_mv {n : Nat} {ok : pO} {m1 m9 B : pM} {c s : Int} {v : Int → Int} {ev : pEv} {z : Int} (hU : ClUp n ok) (hRU : RefUp n ok) (h9 : vMem (ov B m1) m9 c v ev z) (hG : RG (wr (ov m9 B) 88 0 s) m1 n) (hR : RI (wr (ov m9 B) 88 0 s)) : INV n ok (wr m9 88 0 s) := by
  refine INV_n hU hRU hG hR (fun a a1 a2 _ _ _ _ => ?_) (fun k _ => ?_) (fun a ha => ?_)
  · rw [wr_a _ _ _ (by omega), wr_a _ _ _ (by omega), ov_in _ _ (by omega) (by omega)]
  · by_cases q : k = 0
    · rw [q, wr_s, wr_s]
    · rw [wr_k _ _ _ _ q, wr_k _ _ _ _ q, ov_in _ _ (by omega) (by omega)]
  · rw [wr_a _ _ _ (by omega)]; exact vMem_out h9 a ha
theorem may_z (A : pM) (c v z : Int) : (rMay A c v z).1 = (rMay A c v 0).1 := by unfold rMay; (repeat' split) <;> rfl
theorem barred_z (A : pM) (c v z : Int) : (rBarred A c v z).1 = (rBarred A c v 0).1 := by unfold rBarred; (repeat' split) <;> rfl
theorem isOpen_z (A : pM) (c z : Int) : (rIsOpen A c z).1 = (rIsOpen A c 0).1 := by unfold rIsOpen; (repeat' split) <;> rfl
theorem EXM_ov {m m1 m2 : pM} {c : Int} (h : EXM m1 m2 c) (e : RE m m1) (hw : wA m1 c = wA m c) : EXM m (ov m2 m) c := by
  obtain ⟨t1, t2, t3, t4⟩ := h
  rw [hw] at t3 t4
  refine ⟨fun a a1 a2 a3 => ?_, fun k hk => ?_, by rw [ov_in _ _ (by omega) (by omega)]; exact t3, ?_⟩
  · by_cases w : 88 ≤ a ∧ a ≤ 122
    · rw [ov_in _ _ w.1 w.2, t1 a a1 a2 a3, e a w.1 w.2]
    · rw [ov_out _ _ (by omega)]
  · rw [ov_in _ _ (by omega) (by omega), t2 k hk, e 88 (by omega) (by omega)]
  · unfold LW at t4 ⊢; rw [ov_in _ _ (by omega) (by omega)]; exact t4
theorem and63 (x : Int) : 0 ≤ iAnd x 63 ∧ iAnd x 63 ≤ 63 := by
  unfold iAnd
  have h : (Int32.ofInt x &&& Int32.ofInt 63).toBitVec = (Int32.ofInt x).toBitVec &&& 63#32 := rfl
  have e : (Int32.ofInt x &&& Int32.ofInt 63).toInt = ((Int32.ofInt x).toBitVec &&& 63#32).toInt := rfl
  rw [e]
  generalize (Int32.ofInt x).toBitVec = w
  have h1 : (w &&& 63#32).toNat ≤ 63 := by
    rw [BitVec.toNat_and]; exact Nat.and_le_right
  have h2 : (w &&& 63#32).toInt = ((w &&& 63#32).toNat : Int) := BitVec.toInt_eq_toNat_of_lt (by omega)
  rw [h2]; omega
