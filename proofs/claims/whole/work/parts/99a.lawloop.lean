/-! ===== the law: its loop ===== -/
def crA (xs : Nat → Int) (j : Int) : Prop := (iAnd (xs j.toNat) 63 = 28 ∧ (0 ≤ xs (j + 1).toNat ∧ xs (j + 1).toNat ≤ 2) ∧ (1 ≤ xs (j + 2).toNat ∧ xs (j + 2).toNat ≤ 1000)) ∨ (iAnd (xs j.toNat) 63 = 9 ∧ (0 ≤ xs (j + 1).toNat ∧ xs (j + 1).toNat ≤ 2) ∧ (0 ≤ xs (j + 3).toNat ∧ xs (j + 3).toNat ≤ 40))
def Cr (L : Nat) (xs : Nat → Int) (i : Int) : Prop := ∃ j, i ≤ j ∧ j + 7 ≤ L ∧ (j - i) % 7 = 0 ∧ crA xs j
theorem Cr_s {L : Nat} {xs : Nat → Int} {i : Int} (h : Cr L xs i) (hn : ¬ crA xs i) : Cr L xs (i + 7) := by
  obtain ⟨j, j1, j2, j3, j4⟩ := h
  refine ⟨j, ?_, j2, by omega, j4⟩
  by_cases q : j = i
  · rw [q] at j4; exact absurd j4 hn
  · omega
theorem Cr_b {L : Nat} {xs : Nat → Int} {i : Int} (h : Cr L xs (i + 7)) : Cr L xs i := by
  obtain ⟨j, j1, j2, j3, j4⟩ := h
  exact ⟨j, by omega, j2, by omega, j4⟩
set_option maxHeartbeats 8000000 in
set_option maxRecDepth 100000 in
theorem law_loop (nm : String) (L : Nat) (hL : L ≤ 3584) (xs : Nat → Int) (hxs : ∀ j, -2147483648 ≤ xs j ∧ xs j ≤ 2147483647) (d nf : Nat) (hd : 8 ≤ d) (Q : pQt) (hQ : ∀ ok mem, Q (some (vi 1)) ok mem) (hnf : nf = 122 ∨ nf = 133) : ∀ (k : Nat) (i : Int) (n : Nat) (ok : pO) (mem : pM), (L : Int) - i < k → 0 ≤ i ∧ i ≤ L → INV n ok mem → n ≤ nf → (n = nf ∨ (nf = 133 ∧ Cr L xs i)) → (nf = 122 → ¬ Cr L xs i) → PW (miL nm L xs) d nf 0 Q 18 [(0, vr 1003), (1, vr 1), (2, vr 88), (3, vi i)] [] n ok mem := by
  intro k
  induction k with
  | zero =>
    intro i n ok mem hk hi hV hn hc1 hc2
    exact absurd hk (by omega)
  | succ k ih =>
    intro i n ok mem hk hi hV hn hc1 hc2
    have HK : i + 7 ≤ L → ¬ crA xs i → ∀ ok' mem', INV n ok' mem' → PW (miL nm L xs) d nf 0 Q 1800 [(0, vr 1003), (1, vr 1), (2, vr 88), (3, vi i)] [] n ok' mem' := fun hi7 hnc ok' mem' hV' => by
      refine pw_iinc dL_law_1800 rfl (show 3 < 4 by decide) ?_
      refine pw_goto 18 (by decide) dL_law_1803 ?_
      refine pw_locs _ rfl (ih (i + 7) n ok' mem' (by omega) (by omega) hV' hn ?_ (fun z y => hc2 z (Cr_b y)))
      rcases hc1 with z | z
      · exact Or.inl z
      · exact Or.inr ⟨z.1, Cr_s z.2 hnc⟩
    have HK1 : i + 7 ≤ L → nf = 133 → ∀ ok' mem', INV 133 ok' mem' → PW (miL nm L xs) d nf 0 Q 1800 [(0, vr 1003), (1, vr 1), (2, vr 88), (3, vi i)] [] 133 ok' mem' := fun hi7 hn3 ok' mem' hV' => by
      refine pw_iinc dL_law_1800 rfl (show 3 < 4 by decide) ?_
      refine pw_goto 18 (by decide) dL_law_1803 ?_
      exact pw_locs _ rfl (ih (i + 7) 133 ok' mem' (by omega) (by omega) hV' (by omega) (Or.inl hn3.symm) (fun z => by omega))
    refine pw_iload_n 3 rfl dL_law_18 rfl ?_
    refine pw_aload_n 0 rfl dL_law_19 rfl ?_
    refine pw_slen rfl dL_law_20 ?_
    rw [show ((mS (miL nm L xs) : Nat) : Int) = (L : Int) from rfl]
    refine pw_bipush dL_law_21 (by decide) ?_
    refine pw_isub dL_law_23 ?_
    refine pw_icmp_gt 1806 (by decide) dL_law_24 (by omega) (by omega) (fun c24 => ?_) (fun c24 => ?_)
    · refine pw_iconst dL_law_1806 ?_
      refine pw_zret dL_law_1807 rfl (Or.inr rfl) ?_ (hQ _ _)
      rcases hc1 with z | z
      · exact z
      · obtain ⟨j, j1, j2, j3, j4⟩ := z.2
        exfalso; omega
    · refine pw_aload_n 0 rfl dL_law_27 rfl ?_
      refine pw_iload_n 3 rfl dL_law_28 rfl ?_
      refine pw_sld rfl dL_law_29 (by omega) (show i < ((L : Nat) : Int) by omega) ?_
      rw [show mX (miL nm L xs) i.toNat = xs i.toNat from rfl]
      refine pw_bipush dL_law_30 (by decide) ?_
      refine pw_iand dL_law_32 ?_
      have h63 := and63 (xs i.toNat)
      have hi7 : i + 7 ≤ L := by omega
      have hn133 := hV.1.2.2.2.2.2.2.2.2.2.2
      obtain ⟨w9, hw9⟩ : ∃ w9, w9 = iAnd (xs i.toNat) 63 := ⟨_, rfl⟩
      rw [← hw9] at h63 ⊢
      refine pw_tab1 (0) 252 dL_law_33 (by omega) (by omega) (by omega) rfl rfl (fun cw => ?_) (fun cw0 => ?_)
      · exact lc_row nm L xs d nf n hd Q i ⟨hi.1, hi7⟩ ok mem hV hn _ _ _ rfl (hxs _) rfl (hxs _) rfl (hxs _) (HK hi7 (fun z => by rcases z with z | z <;> (have := z.1; omega)))
      refine pw_tab1 (1) 295 dL_law_33 (by omega) (by omega) (by omega) rfl rfl (fun cw => ?_) (fun cw1 => ?_)
      · exact lc_part nm L xs d nf n hd Q i ⟨hi.1, hi7⟩ ok mem hV hn _ _ _ _ _ rfl (hxs _) rfl (hxs _) rfl (hxs _) rfl (hxs _) rfl (hxs _) (HK hi7 (fun z => by rcases z with z | z <;> (have := z.1; omega)))
      refine pw_tab1 (2) 358 dL_law_33 (by omega) (by omega) (by omega) rfl rfl (fun cw => ?_) (fun cw2 => ?_)
      · exact lc_take nm L xs d nf n hd Q i ⟨hi.1, hi7⟩ ok mem hV hn _ _ rfl (hxs _) rfl (hxs _) (HK hi7 (fun z => by rcases z with z | z <;> (have := z.1; omega)))
      refine pw_tab1 (3) 391 dL_law_33 (by omega) (by omega) (by omega) rfl rfl (fun cw => ?_) (fun cw3 => ?_)
      · exact lc_condition nm L xs d nf n hd Q i ⟨hi.1, hi7⟩ ok mem hV hn _ _ _ _ rfl (hxs _) rfl (hxs _) rfl (hxs _) rfl (hxs _) (HK hi7 (fun z => by rcases z with z | z <;> (have := z.1; omega)))
      refine pw_tab1 (4) 444 dL_law_33 (by omega) (by omega) (by omega) rfl rfl (fun cw => ?_) (fun cw4 => ?_)
      · exact lc_truth nm L xs d nf n hd Q i ⟨hi.1, hi7⟩ ok mem hV hn _ _ _ _ rfl (hxs _) rfl (hxs _) rfl (hxs _) rfl (hxs _) (HK hi7 (fun z => by rcases z with z | z <;> (have := z.1; omega)))
      refine pw_tab1 (5) 513 dL_law_33 (by omega) (by omega) (by omega) rfl rfl (fun cw => ?_) (fun cw5 => ?_)
      · exact lc_copyTruths nm L xs d nf n hd Q i ⟨hi.1, hi7⟩ ok mem hV hn _ _ _ _ _ _ rfl (hxs _) rfl (hxs _) rfl (hxs _) rfl (hxs _) rfl (hxs _) rfl (hxs _) (HK hi7 (fun z => by rcases z with z | z <;> (have := z.1; omega)))
      refine pw_tab1 (6) 588 dL_law_33 (by omega) (by omega) (by omega) rfl rfl (fun cw => ?_) (fun cw6 => ?_)
      · exact lc_jam nm L xs d nf n hd Q i ⟨hi.1, hi7⟩ ok mem hV hn _ _ _ rfl (hxs _) rfl (hxs _) rfl (hxs _) (HK hi7 (fun z => by rcases z with z | z <;> (have := z.1; omega)))
      refine pw_tab1 (7) 631 dL_law_33 (by omega) (by omega) (by omega) rfl rfl (fun cw => ?_) (fun cw7 => ?_)
      · exact lc_clear nm L xs d nf n hd Q i ⟨hi.1, hi7⟩ ok mem hV hn _ rfl (hxs _) (HK hi7 (fun z => by rcases z with z | z <;> (have := z.1; omega)))
      refine pw_tab1 (8) 654 dL_law_33 (by omega) (by omega) (by omega) rfl rfl (fun cw => ?_) (fun cw8 => ?_)
      · exact lc_copy nm L xs d nf n hd Q i ⟨hi.1, hi7⟩ ok mem hV hn _ _ rfl (hxs _) rfl (hxs _) (HK hi7 (fun z => by rcases z with z | z <;> (have := z.1; omega)))
      refine pw_tab1 (9) 687 dL_law_33 (by omega) (by omega) (by omega) rfl rfl (fun cw => ?_) (fun cw9 => ?_)
      · by_cases hg : (0 ≤ xs (i + 1).toNat ∧ xs (i + 1).toNat ≤ 2) ∧ (0 ≤ xs (i + 3).toNat ∧ xs (i + 3).toNat ≤ 40)
        · have hn3 : nf = 133 := by
            rcases hnf with z | z
            · exact absurd ⟨i, by omega, hi7, by omega, Or.inr ⟨by omega, hg.1, hg.2⟩⟩ (hc2 z)
            · exact z
          exact lc_make1 nm L xs d nf n hd Q i ⟨hi.1, hi7⟩ ok mem hV hn133 hn3 _ _ _ rfl (hxs _) rfl (hxs _) rfl (hxs _) hg.1 hg.2 (HK1 hi7 hn3)
        · exact lc_make0 nm L xs d nf n hd Q i ⟨hi.1, hi7⟩ ok mem hV hn _ _ _ rfl (hxs _) rfl (hxs _) rfl (hxs _) hg (HK hi7 (fun z => by
            rcases z with z | z
            · have := z.1; omega
            · exact hg ⟨z.2.1, z.2.2⟩))
      refine pw_tab1 (10) 730 dL_law_33 (by omega) (by omega) (by omega) rfl rfl (fun cw => ?_) (fun cw10 => ?_)
      · exact lc_told nm L xs d nf n hd Q i ⟨hi.1, hi7⟩ ok mem hV hn _ _ _ rfl (hxs _) rfl (hxs _) rfl (hxs _) (HK hi7 (fun z => by rcases z with z | z <;> (have := z.1; omega)))
      refine pw_tab1 (11) 773 dL_law_33 (by omega) (by omega) (by omega) rfl rfl (fun cw => ?_) (fun cw11 => ?_)
      · exact lc_tell nm L xs d nf n hd Q i ⟨hi.1, hi7⟩ ok mem hV hn _ _ rfl (hxs _) rfl (hxs _) (HK hi7 (fun z => by rcases z with z | z <;> (have := z.1; omega)))
      refine pw_tab1 (12) 806 dL_law_33 (by omega) (by omega) (by omega) rfl rfl (fun cw => ?_) (fun cw12 => ?_)
      · exact lc_conditionTold nm L xs d nf n hd Q i ⟨hi.1, hi7⟩ ok mem hV hn _ _ _ rfl (hxs _) rfl (hxs _) rfl (hxs _) (HK hi7 (fun z => by rcases z with z | z <;> (have := z.1; omega)))
      refine pw_tab1 (13) 849 dL_law_33 (by omega) (by omega) (by omega) rfl rfl (fun cw => ?_) (fun cw13 => ?_)
      · exact lc_holds nm L xs d nf n hd Q i ⟨hi.1, hi7⟩ ok mem hV hn _ _ rfl (hxs _) rfl (hxs _) (HK hi7 (fun z => by rcases z with z | z <;> (have := z.1; omega)))
      refine pw_tab1 (14) 882 dL_law_33 (by omega) (by omega) (by omega) rfl rfl (fun cw => ?_) (fun cw14 => ?_)
      · exact lc_may nm L xs d nf n hd Q i ⟨hi.1, hi7⟩ ok mem hV hn _ _ rfl (hxs _) rfl (hxs _) (HK hi7 (fun z => by rcases z with z | z <;> (have := z.1; omega)))
      refine pw_tab1 (15) 915 dL_law_33 (by omega) (by omega) (by omega) rfl rfl (fun cw => ?_) (fun cw15 => ?_)
      · exact lc_barredBy nm L xs d nf n hd Q i ⟨hi.1, hi7⟩ ok mem hV hn _ _ rfl (hxs _) rfl (hxs _) (HK hi7 (fun z => by rcases z with z | z <;> (have := z.1; omega)))
      refine pw_tab1 (16) 948 dL_law_33 (by omega) (by omega) (by omega) rfl rfl (fun cw => ?_) (fun cw16 => ?_)
      · exact lc_isOpen nm L xs d nf n hd Q i ⟨hi.1, hi7⟩ ok mem hV hn _ rfl (hxs _) (HK hi7 (fun z => by rcases z with z | z <;> (have := z.1; omega)))
      refine pw_tab1 (17) 971 dL_law_33 (by omega) (by omega) (by omega) rfl rfl (fun cw => ?_) (fun cw17 => ?_)
      · exact lc_product nm L xs d nf n hd Q i ⟨hi.1, hi7⟩ ok mem hV hn _ rfl (hxs _) (HK hi7 (fun z => by rcases z with z | z <;> (have := z.1; omega)))
      refine pw_tab1 (18) 994 dL_law_33 (by omega) (by omega) (by omega) rfl rfl (fun cw => ?_) (fun cw18 => ?_)
      · exact lc_state nm L xs d nf n hd Q i ⟨hi.1, hi7⟩ ok mem hV hn _ rfl (hxs _) (HK hi7 (fun z => by rcases z with z | z <;> (have := z.1; omega)))
      refine pw_tab1 (19) 1017 dL_law_33 (by omega) (by omega) (by omega) rfl rfl (fun cw => ?_) (fun cw19 => ?_)
      · exact lc_ofNumber nm L xs d nf n hd Q i ⟨hi.1, hi7⟩ ok mem hV hn _ _ rfl (hxs _) rfl (hxs _) (HK hi7 (fun z => by rcases z with z | z <;> (have := z.1; omega)))
      refine pw_tab1 (20) 1050 dL_law_33 (by omega) (by omega) (by omega) rfl rfl (fun cw => ?_) (fun cw20 => ?_)
      · exact lc_place nm L xs d nf n hd Q i ⟨hi.1, hi7⟩ ok mem hV hn _ _ _ rfl (hxs _) rfl (hxs _) rfl (hxs _) (HK hi7 (fun z => by rcases z with z | z <;> (have := z.1; omega)))
      refine pw_tab1 (21) 1093 dL_law_33 (by omega) (by omega) (by omega) rfl rfl (fun cw => ?_) (fun cw21 => ?_)
      · exact lc_move nm L xs d nf n hd Q i ⟨hi.1, hi7⟩ ok mem hV hn _ _ rfl (hxs _) rfl (hxs _) (HK hi7 (fun z => by rcases z with z | z <;> (have := z.1; omega)))
      refine pw_tab1 (22) 1126 dL_law_33 (by omega) (by omega) (by omega) rfl rfl (fun cw => ?_) (fun cw22 => ?_)
      · exact lc_type nm L xs d nf n hd Q i ⟨hi.1, hi7⟩ ok mem hV hn _ rfl (hxs _) (HK hi7 (fun z => by rcases z with z | z <;> (have := z.1; omega)))
      refine pw_tab1 (23) 1149 dL_law_33 (by omega) (by omega) (by omega) rfl rfl (fun cw => ?_) (fun cw23 => ?_)
      · exact lc_untype nm L xs d nf n hd Q i ⟨hi.1, hi7⟩ ok mem hV hn  (HK hi7 (fun z => by rcases z with z | z <;> (have := z.1; omega)))
      refine pw_tab1 (24) 1162 dL_law_33 (by omega) (by omega) (by omega) rfl rfl (fun cw => ?_) (fun cw24 => ?_)
      · exact lc_play nm L xs d nf n hd Q i ⟨hi.1, hi7⟩ ok mem hV hn _ rfl (hxs _) (HK hi7 (fun z => by rcases z with z | z <;> (have := z.1; omega)))
      refine pw_tab1 (25) 1185 dL_law_33 (by omega) (by omega) (by omega) rfl rfl (fun cw => ?_) (fun cw25 => ?_)
      · exact lc_attempt nm L xs d nf n hd Q i ⟨hi.1, hi7⟩ ok mem hV hn _ rfl (hxs _) (HK hi7 (fun z => by rcases z with z | z <;> (have := z.1; omega)))
      refine pw_tab1 (26) 1208 dL_law_33 (by omega) (by omega) (by omega) rfl rfl (fun cw => ?_) (fun cw26 => ?_)
      · exact lc_attempted nm L xs d nf n hd Q i ⟨hi.1, hi7⟩ ok mem hV hn _ rfl (hxs _) (HK hi7 (fun z => by rcases z with z | z <;> (have := z.1; omega)))
      refine pw_tab1 (27) 1231 dL_law_33 (by omega) (by omega) (by omega) rfl rfl (fun cw => ?_) (fun cw27 => ?_)
      · exact lc_back nm L xs d nf n hd Q i ⟨hi.1, hi7⟩ ok mem hV hn _ rfl (hxs _) (HK hi7 (fun z => by rcases z with z | z <;> (have := z.1; omega)))
      refine pw_tab1 (28) 1254 dL_law_33 (by omega) (by omega) (by omega) rfl rfl (fun cw => ?_) (fun cw28 => ?_)
      · by_cases hg : (0 ≤ xs (i + 1).toNat ∧ xs (i + 1).toNat ≤ 2) ∧ (1 ≤ xs (i + 2).toNat ∧ xs (i + 2).toNat ≤ 1000)
        · have hn3 : nf = 133 := by
            rcases hnf with z | z
            · exact absurd ⟨i, by omega, hi7, by omega, Or.inl ⟨by omega, hg.1, hg.2⟩⟩ (hc2 z)
            · exact z
          exact lc_search1 nm L xs d nf n hd Q i ⟨hi.1, hi7⟩ ok mem hV hn133 hn3 _ _ rfl (hxs _) rfl (hxs _) hg.1 hg.2 (HK1 hi7 hn3)
        · exact lc_search0 nm L xs d nf n hd Q i ⟨hi.1, hi7⟩ ok mem hV hn _ _ rfl (hxs _) rfl (hxs _) hg (HK hi7 (fun z => by
            rcases z with z | z
            · exact hg ⟨z.2.1, z.2.2⟩
            · have := z.1; omega))
      refine pw_tab1 (29) 1287 dL_law_33 (by omega) (by omega) (by omega) rfl rfl (fun cw => ?_) (fun cw29 => ?_)
      · exact lc_goOn nm L xs d nf n hd Q i ⟨hi.1, hi7⟩ ok mem hV hn _ rfl (hxs _) (HK hi7 (fun z => by rcases z with z | z <;> (have := z.1; omega)))
      refine pw_tab1 (30) 1310 dL_law_33 (by omega) (by omega) (by omega) rfl rfl (fun cw => ?_) (fun cw30 => ?_)
      · exact lc_searched nm L xs d nf n hd Q i ⟨hi.1, hi7⟩ ok mem hV hn _ rfl (hxs _) (HK hi7 (fun z => by rcases z with z | z <;> (have := z.1; omega)))
      refine pw_tab1 (31) 1333 dL_law_33 (by omega) (by omega) (by omega) rfl rfl (fun cw => ?_) (fun cw31 => ?_)
      · exact lc_ordered nm L xs d nf n hd Q i ⟨hi.1, hi7⟩ ok mem hV hn _ rfl (hxs _) (HK hi7 (fun z => by rcases z with z | z <;> (have := z.1; omega)))
      refine pw_tab1 (32) 1356 dL_law_33 (by omega) (by omega) (by omega) rfl rfl (fun cw => ?_) (fun cw32 => ?_)
      · exact lc_layer nm L xs d nf n hd Q i ⟨hi.1, hi7⟩ ok mem hV hn _ rfl (hxs _) (HK hi7 (fun z => by rcases z with z | z <;> (have := z.1; omega)))
      refine pw_tab1 (33) 1379 dL_law_33 (by omega) (by omega) (by omega) rfl rfl (fun cw => ?_) (fun cw33 => ?_)
      · exact lc_shortest nm L xs d nf n hd Q i ⟨hi.1, hi7⟩ ok mem hV hn  (HK hi7 (fun z => by rcases z with z | z <;> (have := z.1; omega)))
      refine pw_tab1 (34) 1392 dL_law_33 (by omega) (by omega) (by omega) rfl rfl (fun cw => ?_) (fun cw34 => ?_)
      · exact lc_way nm L xs d nf n hd Q i ⟨hi.1, hi7⟩ ok mem hV hn _ rfl (hxs _) (HK hi7 (fun z => by rcases z with z | z <;> (have := z.1; omega)))
      refine pw_tab1 (35) 1415 dL_law_33 (by omega) (by omega) (by omega) rfl rfl (fun cw => ?_) (fun cw35 => ?_)
      · exact lc_along nm L xs d nf n hd Q i ⟨hi.1, hi7⟩ ok mem hV hn _ rfl (hxs _) (HK hi7 (fun z => by rcases z with z | z <;> (have := z.1; omega)))
      refine pw_tab1 (36) 1438 dL_law_33 (by omega) (by omega) (by omega) rfl rfl (fun cw => ?_) (fun cw36 => ?_)
      · exact lc_trap nm L xs d nf n hd Q i ⟨hi.1, hi7⟩ ok mem hV hn _ rfl (hxs _) (HK hi7 (fun z => by rcases z with z | z <;> (have := z.1; omega)))
      refine pw_tab1 (37) 1461 dL_law_33 (by omega) (by omega) (by omega) rfl rfl (fun cw => ?_) (fun cw37 => ?_)
      · exact lc_traps nm L xs d nf n hd Q i ⟨hi.1, hi7⟩ ok mem hV hn  (HK hi7 (fun z => by rcases z with z | z <;> (have := z.1; omega)))
      refine pw_tab1 (38) 1474 dL_law_33 (by omega) (by omega) (by omega) rfl rfl (fun cw => ?_) (fun cw38 => ?_)
      · exact lc_hint nm L xs d nf n hd Q i ⟨hi.1, hi7⟩ ok mem hV hn _ rfl (hxs _) (HK hi7 (fun z => by rcases z with z | z <;> (have := z.1; omega)))
      refine pw_tab1 (39) 1497 dL_law_33 (by omega) (by omega) (by omega) rfl rfl (fun cw => ?_) (fun cw39 => ?_)
      · exact lc_mark nm L xs d nf n hd Q i ⟨hi.1, hi7⟩ ok mem hV hn _ _ _ rfl (hxs _) rfl (hxs _) rfl (hxs _) (HK hi7 (fun z => by rcases z with z | z <;> (have := z.1; omega)))
      refine pw_tab1 (40) 1556 dL_law_33 (by omega) (by omega) (by omega) rfl rfl (fun cw => ?_) (fun cw40 => ?_)
      · exact lc_markAll nm L xs d nf n hd Q i ⟨hi.1, hi7⟩ ok mem hV hn  (HK hi7 (fun z => by rcases z with z | z <;> (have := z.1; omega)))
      refine pw_tab1 (41) 1569 dL_law_33 (by omega) (by omega) (by omega) rfl rfl (fun cw => ?_) (fun cw41 => ?_)
      · exact lc_marked nm L xs d nf n hd Q i ⟨hi.1, hi7⟩ ok mem hV hn _ rfl (hxs _) (HK hi7 (fun z => by rcases z with z | z <;> (have := z.1; omega)))
      refine pw_tab1 (42) 1592 dL_law_33 (by omega) (by omega) (by omega) rfl rfl (fun cw => ?_) (fun cw42 => ?_)
      · exact lc_shows nm L xs d nf n hd Q i ⟨hi.1, hi7⟩ ok mem hV hn _ rfl (hxs _) (HK hi7 (fun z => by rcases z with z | z <;> (have := z.1; omega)))
      refine pw_tab1 (43) 1615 dL_law_33 (by omega) (by omega) (by omega) rfl rfl (fun cw => ?_) (fun cw43 => ?_)
      · exact lc_shown nm L xs d nf n hd Q i ⟨hi.1, hi7⟩ ok mem hV hn _ rfl (hxs _) (HK hi7 (fun z => by rcases z with z | z <;> (have := z.1; omega)))
      refine pw_tab1 (44) 1638 dL_law_33 (by omega) (by omega) (by omega) rfl rfl (fun cw => ?_) (fun cw44 => ?_)
      · exact lc_alike nm L xs d nf n hd Q i ⟨hi.1, hi7⟩ ok mem hV hn _ _ rfl (hxs _) rfl (hxs _) (HK hi7 (fun z => by rcases z with z | z <;> (have := z.1; omega)))
      refine pw_tab1 (45) 1671 dL_law_33 (by omega) (by omega) (by omega) rfl rfl (fun cw => ?_) (fun cw45 => ?_)
      · exact lc_export nm L xs d nf n hd Q i ⟨hi.1, hi7⟩ ok mem hV hn _ rfl (hxs _) (HK hi7 (fun z => by rcases z with z | z <;> (have := z.1; omega)))
      refine pw_tab1 (46) 1694 dL_law_33 (by omega) (by omega) (by omega) rfl rfl (fun cw => ?_) (fun cw46 => ?_)
      · exact lc_out nm L xs d nf n hd Q i ⟨hi.1, hi7⟩ ok mem hV hn _ rfl (hxs _) (HK hi7 (fun z => by rcases z with z | z <;> (have := z.1; omega)))
      refine pw_tab1 (47) 1717 dL_law_33 (by omega) (by omega) (by omega) rfl rfl (fun cw => ?_) (fun cw47 => ?_)
      · exact lc_digest nm L xs d nf n hd Q i ⟨hi.1, hi7⟩ ok mem hV hn _ rfl (hxs _) (HK hi7 (fun z => by rcases z with z | z <;> (have := z.1; omega)))
      refine pw_tab1 (48) 1741 dL_law_33 (by omega) (by omega) (by omega) rfl rfl (fun cw => ?_) (fun cw48 => ?_)
      · exact lc_trace nm L xs d nf n hd Q i ⟨hi.1, hi7⟩ ok mem hV hn _ rfl (hxs _) (HK hi7 (fun z => by rcases z with z | z <;> (have := z.1; omega)))
      refine pw_tab1 (49) 1764 dL_law_33 (by omega) (by omega) (by omega) rfl rfl (fun cw => ?_) (fun cw49 => ?_)
      · exact lc_count nm L xs d nf n hd Q i ⟨hi.1, hi7⟩ ok mem hV hn _ rfl (hxs _) (HK hi7 (fun z => by rcases z with z | z <;> (have := z.1; omega)))
      refine pw_tab1 (50) 1787 dL_law_33 (by omega) (by omega) (by omega) rfl rfl (fun cw => ?_) (fun cw50 => ?_)
      · exact lc_status nm L xs d nf n hd Q i ⟨hi.1, hi7⟩ ok mem hV hn  (HK hi7 (fun z => by rcases z with z | z <;> (have := z.1; omega)))
      refine pw_tableOut 1800 dL_law_33 (by omega) (by omega) rfl ?_
      exact HK hi7 (fun z => by rcases z with z | z <;> (have := z.1; omega)) ok mem hV
/-! ===== the law: its start ===== -/
theorem ClUp_mid {ok ok' : pO} (h : ClUp 87 ok) (e : ∀ a, a < 88 → ok' a = ok a) : ClUp 122 ok' := by
  obtain ⟨hP9, hN, ⟨hn4, ho0, ho1, ho2⟩, hCh, hDr, hM, ⟨hW80, hW82, hW84⟩, q86, q87, hSU, hn133⟩ := h
  have e4 := e 4 (by omega)
  have hn : (87 : Nat) ≤ 122 := by omega
  have w : ∀ x, WUp 87 ok x → x ≤ 84 → WUp 122 ok' x := fun x hx h4 => ⟨Of_up hx.1 hn (e _ (by omega)), Ar_up hx.2.1 hn, hx.2.2⟩
  refine ⟨Of_up hP9 hn (e _ (by omega)), ⟨Of_up hN.1 hn (e _ (by omega)), Ar_up hN.2 hn⟩, ⟨by omega, by rw [e4]; exact ho0, by rw [e4]; exact ho1, by rw [e4]; exact ho2⟩, fun b hb => ?_, Of_up hDr hn (e _ (by omega)), ⟨Of_up hM.1 hn (e _ (by omega)), Az_up hM.2 hn⟩, ⟨w _ hW80 (by omega), w _ hW82 (by omega), w _ hW84 (by omega)⟩, Ar_up q86 hn, Ar_up q87 hn, fun z => absurd z (by omega), by omega⟩
  obtain ⟨hC0, ⟨hC1, hC2, hC3, hC4, hC5, hC6, hC7⟩, hC8, ⟨hC9, hC10, hC11, hC12, hC13, hC14, hC15⟩, hC16, hC17, hb5, hb59⟩ := hCh b hb
  exact ⟨Of_up hC0 hn (e _ (by omega)), ⟨Ar_up hC1 hn, Ar_up hC2 hn, Ar_up hC3 hn, Ar_up hC4 hn, Ar_up hC5 hn, Ar_up hC6 hn, Ar_up hC7 hn⟩, Of_up hC8 hn (e _ (by omega)), ⟨Ar_up hC9 hn, Ar_up hC10 hn, Ar_up hC11 hn, Ar_up hC12 hn, Ar_up hC13 hn, Ar_up hC14 hn, Ar_up hC15 hn⟩, Of_up hC16 hn (e _ (by omega)), Ar_up hC17 hn, hb5, hb59⟩
theorem IR_q {m : pM} (h : IR m) {c : Int} (hc : 0 ≤ c ∧ c ≤ 2) : chEq (zA 4) 0 m c := by
  have z := zA_v 4
  have e90 : ∀ s : Int, 0 ≤ s → s ≤ 15 → zA 4 90 (16 * 0 + s) = -1 := fun s s1 s2 => by rw [z.2.1, if_pos (by omega)]
  refine ⟨fun r r1 r2 => ?_, fun s s1 s2 => ⟨?_, fun y => absurd (e90 s s1 s2) y⟩, ?_, fun k k1 k2 => ?_⟩
  · rw [z.1, if_pos (by omega)]; exact h.1 _ (by omega) (by omega)
  · rw [e90 s s1 s2]; exact h.2.1 _ (by omega) (by omega)
  · rw [z.2.2.2 94 _ (by omega) (by omega) (by omega)]; exact (h.2.2.1 c hc.1 hc.2).1
  · rw [z.2.2.2 94 _ (by omega) (by omega) (by omega)] at k2; omega
theorem INV_start {ok : pO} {m : pM} (hU : ClUp 122 ok) (hRU : RefUp 122 ok) (hC : IC m) (hR : IR m) : INV 122 ok m := by
  obtain ⟨⟨c10, c11, c13, c14, c15, c16⟩, ⟨n1, n2, n3⟩, hch, ⟨k1, k2, k3, k4⟩, w1⟩ := hC
  obtain ⟨r1, r2, r3, r4, ⟨a0, a1, a2, a3, a19, a24, a28, a29, a30, a31, a44⟩, a50, a51, a52, a56⟩ := id hR
  have hq : ∀ c, 0 ≤ c → c ≤ 2 → chEq (zA 4) 0 m c := fun c d1 d2 => IR_q hR ⟨d1, d2⟩
  have e90 : ∀ s : Int, 0 ≤ s → s ≤ 15 → zA 4 90 (16 * 0 + s) = -1 := fun s s1 s2 => by rw [(zA_v 4).2.1, if_pos (by omega)]
  have hI : IOk m := fun c d1 d2 => cIn_t zA_in (hq c d1 d2) (fun s s1 s2 y => absurd (e90 s s1 s2) y) (by rw [(r3 c d1 d2).2.1]; omega) (by rw [(r3 c d1 d2).2.2.1]; omega)
  refine ⟨hU, hRU, ⟨⟨by rw [n1, a19], by rw [n2, a1], by rw [n3, a2], fun i i1 i2 i3 => by rw [a19] at i3; omega⟩, fun c b d1 d2 hb => ?_, ?_, ⟨by rw [c11, a24], fun i i1 i2 => by rw [a24] at i2; omega⟩, ⟨by rw [c13, a28], by rw [c14, a29], by rw [c15, a30], by rw [c16, a0]⟩, ⟨fun j _ _ => by rw [k4, r4], by rw [k1, a50], by rw [k2, a51], by rw [k3, a52]⟩, ⟨[], ?_, ?_, ?_, by simp⟩, Or.inl ⟨c10, rfl, a31⟩⟩, hI, fun c d1 d2 => ?_, by rw [a19]; omega, a3, ⟨by rw [a24]; omega, fun j j1 j2 => by rw [a24] at j2; omega⟩, fun z => absurd a31 z, fun z => absurd a44 z, fun z => absurd a31 z, fun j _ _ => Or.inl (r4 j)⟩
  · obtain ⟨s1, s2, s3, s4, s5, s6⟩ := hch b (by omega)
    have x := r3 c d1 d2
    refine ⟨CS_t zA_in s1 (hq c d1 d2), CV_t s2 (fun s t1 t2 => ⟨((hq c d1 d2).2.1 s t1 t2).1, fun y => absurd (e90 s t1 t2) y⟩), ⟨by rw [s3, x.2.1], by rw [s4, x.2.2.1]⟩, by rw [s6, x.2.2.2], by rw [s5]; omega, fun i i1 i2 => by rw [x.2.2.2] at i2; omega⟩
  · obtain ⟨s1, s2, -⟩ := hch 59 (by omega)
    exact ⟨zA 4, 0, fun _ => 0, zA_in, s1, s2⟩
  · refine ⟨fun i hi => absurd hi (by simp), ?_⟩
    rw [w1]; rfl
  · exact fun i hi => absurd hi (by simp)
  · rw [a56]; rfl
  · have x := r3 c d1 d2
    rw [x.2.2.2]
    exact ⟨by omega, by omega, fun j j1 j2 => absurd j2 (by omega)⟩
set_option maxHeartbeats 4000000 in
set_option maxRecDepth 100000 in
theorem law_start (nm : String) (L : Nat) (hL : L ≤ 3584) (xs : Nat → Int) (hxs : ∀ j, -2147483648 ≤ xs j ∧ xs j ≤ 2147483647) (d nf : Nat) (hd : 8 ≤ d) (Q : pQt) (hQ : ∀ ok mem, Q (some (vi 1)) ok mem) (hnf : (nf = 122 ∧ ¬ Cr L xs 0) ∨ (nf = 133 ∧ Cr L xs 0)) (ok : pO) (mem : pM) : PW (miL nm L xs) d nf 0 Q 0 [(0, vr 1003)] [] 0 ok mem := by
  refine pw_new dL_law_0 cOk9 kw_88 kw_89 kw_74 (by decide) (by omega) (by omega) (by simp [lput, lput2, nrf, isl]) (by simp [lput, lput2, nrf, isl]) ?_
  refine pw_dup dL_law_3 rfl ?_
  refine pw_callI (d' := d - 1) (As := []) dL_law_4 ok_X9_init (Or.inl kw_90) (by omega) (by omega) rfl (Nat.le_of_ble_eq_true rfl) (i_class (d - 1) (by omega) _ _ (fun j => zr_s _ _ _)) (by omega) (Or.inr ⟨(by simp [lput, lput2, nrf, isl]), (by simp [lput, lput2, nrf, isl])⟩) (fun r ok1 mem1 hq => ?_)
  obtain ⟨rfl, hCl, hIC⟩ := hq
  refine pw_astore_n 1 rfl dL_law_7 (show 1 < 4 by decide) ?_
  refine pw_new dL_law_8 cOk10 kw_1054 kw_1055 kw_82 (by decide) (by omega) (by omega) (by simp [lput, lput2, nrf, isl]) (by simp [lput, lput2, nrf, isl]) ?_
  refine pw_dup dL_law_11 rfl ?_
  refine pw_callI (d' := d - 1) (As := []) dL_law_12 ok_X10_init (Or.inl kw_1056) (by omega) (by omega) rfl (Nat.le_of_ble_eq_true rfl) (i_ref (d - 1) (by omega) _ _ (fun j => zr_s _ _ _)) (by omega) (Or.inr ⟨(by simp [lput, lput2, nrf, isl]), (by simp [lput, lput2, nrf, isl])⟩) (fun r ok2 mem2 hq => ?_)
  obtain ⟨rfl, hfr, hRU, hIR⟩ := hq
  refine pw_astore_n 2 rfl dL_law_15 (show 2 < 4 by decide) ?_
  refine pw_iconst dL_law_16 ?_
  refine pw_istore_n 3 rfl dL_law_17 (show 3 < 4 by decide) ?_
  have hm : ∀ a, a < 88 → mem2 a = mem1 a := fun a ha => by rw [(hfr a ha).2, zr_a _ (by omega)]
  have hU : ClUp 122 ok2 := ClUp_mid hCl (fun a ha => by rw [(hfr a ha).1, okZ_o _ (by omega)])
  have hIC2 : IC mem2 := by
    obtain ⟨i1, i2, i3, i4, i5⟩ := hIC
    refine ⟨by rw [hm 1 (by omega)]; exact i1, by rw [hm 2 (by omega)]; exact i2, fun b hb => ?_, by rw [hm 78 (by omega), hm 79 (by omega)]; exact i4, by rw [hm 80 (by omega)]; exact i5⟩
    obtain ⟨s1, s2, s3, s4, s5, s6⟩ := i3 b hb
    exact ⟨s1.m (fun a _ _ _ _ => hm a (by omega)), s2.m (hm _ (by omega)), by rw [hm b (by omega)]; exact s3, by rw [hm b (by omega)]; exact s4, by rw [hm (b + 16) (by omega)]; exact s5, by rw [hm (b + 16) (by omega)]; exact s6⟩
  refine pw_locs _ rfl (law_loop nm L hL xs hxs d nf hd Q hQ (by omega) (L + 1) 0 122 ok2 mem2 (by omega) (by omega) (INV_start hU hRU hIC2 hIR) (by omega) ?_ ?_)
  · rcases hnf with z | z
    · exact Or.inl z.1.symm
    · exact Or.inr z
  · intro z
    rcases hnf with y | y
    · exact y.2
    · omega
