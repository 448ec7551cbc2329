/-! ===== whole chests copied: the blocks of a chest ===== -/
def sta (a : Nat) (c : Int) : Int := if a ≤ 89 then 4 * c else if a ≤ 93 then 16 * c else if a ≤ 94 then c else if a ≤ 97 then 40 * c else 240 * c
def kk (k0 k1 kc k2 k3 : Int) : Nat → Int := fun a => if a ≤ 89 then k0 else if a ≤ 93 then k1 else if a ≤ 94 then kc else if a ≤ 97 then k2 else k3
def kUp (K : Nat → Int) (a : Nat) : Nat → Int := fun b => if b = a then K a + 1 else K b
def blk (m : pM) (src : Nat → Int → Int) (c : Int) (K : Nat → Int) : pM := fun a j => if 89 ≤ a ∧ a ≤ 98 ∧ sta a c ≤ j ∧ j < sta a c + K a then src a (j - sta a c) else m a j
theorem blk_0 (m : pM) (src : Nat → Int → Int) (c : Int) : blk m src c (kk 0 0 0 0 0) = m := by
  funext a j; unfold blk
  refine if_neg (fun z => ?_)
  have e : kk 0 0 0 0 0 a = 0 := by unfold kk; (repeat' split) <;> rfl
  rw [e] at z; omega
theorem blk_s {m m1 : pM} {src : Nat → Int → Int} {c : Int} {K : Nat → Int} (h : blk m src c K = m1) (a : Nat) {i x : Int} (ha : 89 ≤ a ∧ a ≤ 98) (hK : 0 ≤ K a) (e1 : i = sta a c + K a) (e2 : x = src a (K a)) : blk m src c (kUp K a) = wr m1 a i x := by
  subst e1; subst e2; subst h
  funext b j; unfold wr
  by_cases e : b = a ∧ j = sta a c + K a
  · obtain ⟨rfl, rfl⟩ := e
    rw [if_pos ⟨rfl, rfl⟩]
    have e3 : kUp K b b = K b + 1 := if_pos rfl
    unfold blk
    rw [e3, if_pos ⟨ha.1, ha.2, by omega, by omega⟩]
    congr 1; omega
  · rw [if_neg e]
    unfold blk
    by_cases eb : b = a
    · subst eb
      have e3 : kUp K b b = K b + 1 := if_pos rfl
      rw [e3]
      by_cases q : 89 ≤ b ∧ b ≤ 98 ∧ sta b c ≤ j ∧ j < sta b c + K b
      · rw [if_pos q, if_pos ⟨q.1, q.2.1, q.2.2.1, by omega⟩]
      · rw [if_neg q, if_neg (fun z => q ⟨z.1, z.2.1, z.2.2.1, by have : j ≠ sta b c + K b := fun y => e ⟨rfl, y⟩; omega⟩)]
    · have e3 : kUp K a b = K b := if_neg eb
      rw [e3]
theorem blk_r {m m1 : pM} {src : Nat → Int → Int} {c : Int} {K : Nat → Int} (h : blk m src c K = m1) (a : Nat) (j : Int) (hj : ¬ (sta a c ≤ j ∧ j < sta a c + K a)) : m1 a j = m a j := by
  subst h; exact if_neg (fun z => hj ⟨z.2.2.1, z.2.2.2⟩)
theorem blk_a {m m1 : pM} {src : Nat → Int → Int} {c : Int} {K : Nat → Int} (h : blk m src c K = m1) (a : Nat) (ha : a < 89 ∨ 98 < a) : m1 a = m a := by
  subst h; funext j; exact if_neg (fun z => by omega)
theorem kk_89 (i k1 kc k2 k3 : Int) : kUp (kk i k1 kc k2 k3) 89 89 = i + 1 ∧ ∀ a, 89 ≤ a → kUp (kk i k1 kc k2 k3) 89 a = kk (i + 1) k1 kc k2 k3 a := by
  refine ⟨rfl, fun a h => ?_⟩
  unfold kUp
  by_cases e : a = 89
  · subst e; rfl
  · have e2 : ¬ a ≤ 89 := by omega
    rw [if_neg e]; unfold kk; rw [if_neg e2, if_neg e2]
theorem blk_k {m : pM} {src : Nat → Int → Int} {c : Int} {K K2 : Nat → Int} (h : ∀ a, 89 ≤ a → a ≤ 98 → K a = K2 a) : blk m src c K = blk m src c K2 := by
  funext a j; unfold blk
  by_cases q : 89 ≤ a ∧ a ≤ 98
  · rw [h a q.1 q.2]
  · rw [if_neg (fun z => q ⟨z.1, z.2.1⟩), if_neg (fun z => q ⟨z.1, z.2.1⟩)]
theorem kk_1 (i k1 kc k2 k3 : Int) (a : Nat) (h1 : 89 ≤ a) (h2 : a ≤ 98) : kUp (kk i k1 kc k2 k3) 89 a = kk (i + 1) k1 kc k2 k3 a := (kk_89 i k1 kc k2 k3).2 a h1
theorem kk_4 (k0 i kc k2 k3 : Int) (a : Nat) (h1 : 89 ≤ a) (h2 : a ≤ 98) : kUp (kUp (kUp (kUp (kk k0 i kc k2 k3) 90) 91) 92) 93 a = kk k0 (i + 1) kc k2 k3 a := by
  rcases (show a = 89 ∨ a = 90 ∨ a = 91 ∨ a = 92 ∨ a = 93 ∨ a = 94 ∨ a = 95 ∨ a = 96 ∨ a = 97 ∨ a = 98 by omega) with e | e | e | e | e | e | e | e | e | e <;> (subst e; rfl)
theorem kk_c (k0 k1 k2 k3 : Int) (a : Nat) (h1 : 89 ≤ a) (h2 : a ≤ 98) : kUp (kk k0 k1 0 k2 k3) 94 a = kk k0 k1 1 k2 k3 a := by
  rcases (show a = 89 ∨ a = 90 ∨ a = 91 ∨ a = 92 ∨ a = 93 ∨ a = 94 ∨ a = 95 ∨ a = 96 ∨ a = 97 ∨ a = 98 by omega) with e | e | e | e | e | e | e | e | e | e <;> (subst e; rfl)
theorem kk_3 (k0 k1 kc i k3 : Int) (a : Nat) (h1 : 89 ≤ a) (h2 : a ≤ 98) : kUp (kUp (kUp (kk k0 k1 kc i k3) 95) 96) 97 a = kk k0 k1 kc (i + 1) k3 a := by
  rcases (show a = 89 ∨ a = 90 ∨ a = 91 ∨ a = 92 ∨ a = 93 ∨ a = 94 ∨ a = 95 ∨ a = 96 ∨ a = 97 ∨ a = 98 by omega) with e | e | e | e | e | e | e | e | e | e <;> (subst e; rfl)
theorem kk_5 (k0 k1 kc k2 i : Int) (a : Nat) (h1 : 89 ≤ a) (h2 : a ≤ 98) : kUp (kk k0 k1 kc k2 i) 98 a = kk k0 k1 kc k2 (i + 1) a := by
  rcases (show a = 89 ∨ a = 90 ∨ a = 91 ∨ a = 92 ∨ a = 93 ∨ a = 94 ∨ a = 95 ∨ a = 96 ∨ a = 97 ∨ a = 98 by omega) with e | e | e | e | e | e | e | e | e | e <;> (subst e; rfl)
/-- a chest's block becomes src -/
def blkF (m : pM) (src : Nat → Int → Int) (c : Int) : pM := blk m src c (kk 4 16 1 40 240)
/-- the block of a chest -/
def chB (m : pM) (c : Int) : Nat → Int → Int := fun a t => m a (sta a c + t)
def aso (a : Nat) : Int := if a ≤ 89 then 0 else if a ≤ 90 then 4 else if a ≤ 91 then 20 else if a ≤ 92 then 36 else if a ≤ 93 then 52 else if a ≤ 94 then 68 else if a ≤ 95 then 70 else if a ≤ 96 then 110 else if a ≤ 97 then 150 else 200
/-- what has been put aside of chest c -/
def AS (m m1 : pM) (c : Int) (K : Nat → Int) : Prop := (∀ a, a ≠ 105 → m1 a = m a) ∧ ∀ a, 89 ≤ a → a ≤ 98 → ∀ t, 0 ≤ t → t < K a → m1 105 (aso a + t) = m a (sta a c + t)
theorem aso_dis (a b : Nat) (h1 : 89 ≤ a ∧ a ≤ 98) (h2 : 89 ≤ b ∧ b ≤ 98) (h : b ≠ a) : aso a + kk 4 16 1 40 240 a ≤ aso b ∨ aso b + kk 4 16 1 40 240 b ≤ aso a := by
  rcases (show a = 89 ∨ a = 90 ∨ a = 91 ∨ a = 92 ∨ a = 93 ∨ a = 94 ∨ a = 95 ∨ a = 96 ∨ a = 97 ∨ a = 98 by omega) with e | e | e | e | e | e | e | e | e | e <;>
  rcases (show b = 89 ∨ b = 90 ∨ b = 91 ∨ b = 92 ∨ b = 93 ∨ b = 94 ∨ b = 95 ∨ b = 96 ∨ b = 97 ∨ b = 98 by omega) with f | f | f | f | f | f | f | f | f | f <;>
  (subst e; subst f; revert h; decide)
theorem AS.k {m m1 : pM} {c : Int} {K K2 : Nat → Int} (h : AS m m1 c K) (hk : ∀ a, 89 ≤ a → a ≤ 98 → K a = K2 a) : AS m m1 c K2 := ⟨h.1, fun a h1 h2 t h3 h4 => h.2 a h1 h2 t h3 (by rw [hk a h1 h2]; exact h4)⟩
theorem AS.n (m : pM) (c : Int) : AS m m c (kk 0 0 0 0 0) := ⟨fun _ _ => rfl, fun a h1 h2 t h3 h4 => by
  have e : kk 0 0 0 0 0 a = 0 := by unfold kk; (repeat' split) <;> rfl
  rw [e] at h4; omega⟩
theorem AS.s {m m1 : pM} {c : Int} {K : Nat → Int} (h : AS m m1 c K) (a : Nat) {i x : Int} (ha : 89 ≤ a ∧ a ≤ 98) (hK : ∀ b, 89 ≤ b → b ≤ 98 → 0 ≤ K b ∧ K b ≤ kk 4 16 1 40 240 b) (hKa : K a < kk 4 16 1 40 240 a) (e1 : i = aso a + K a) (e2 : x = m a (sta a c + K a)) : AS m (wr m1 105 i x) c (kUp K a) := by
  refine ⟨fun b hb => by rw [wr_a _ _ _ hb]; exact h.1 b hb, fun b h1 h2 t h3 h4 => ?_⟩
  subst e1; subst e2
  by_cases e : b = a
  · subst e
    have e3 : kUp K b b = K b + 1 := if_pos rfl
    rw [e3] at h4
    by_cases q : t = K b
    · subst q; rw [wr_s]
    · rw [wr_k _ _ _ _ (by omega)]; exact h.2 b h1 h2 t h3 (by omega)
  · have e3 : kUp K a b = K b := if_neg e
    rw [e3] at h4
    have hd := aso_dis a b ha ⟨h1, h2⟩ e
    have hb := hK b h1 h2
    have hc := hK a ha.1 ha.2
    rw [wr_k _ _ _ _ (by omega)]; exact h.2 b h1 h2 t h3 h4
def rCopyTo (m : pM) (a b : Int) : pM := wr (wr (blkF m (chB m a) b) 99 b (m 99 a)) 100 b (m 100 a)
set_option maxHeartbeats 4000000 in
set_option maxRecDepth 100000 in
theorem r_copyTo (d : Nat) (hd : 0 ≤ d) (n : Nat) (ok : pO) (mem : pM) (hU : RefUp n ok) (a b w : Int) (hca : 0 ≤ a ∧ a ≤ 2) (hcb : 0 ≤ b ∧ b ≤ 2) (hw : w = 1) : PM mi_X10_copyTo d [vr 88, vi a, vi b, vi w] n ok mem n (fun r ok' mem' => r = none ∧ ok = ok' ∧ rCopyTo mem a b = mem') := by
  obtain ⟨hO, ⟨a89, a90, a91, a92, a93, a94, a95, a96, a97, a98⟩, ⟨a99, a100, a101, a102, a103, a104, a105, a106, a107⟩, ⟨a108, a109, a110, a111, a112, a113, a114, a115, a116, a117, a118, a119⟩, a120, a121, a122⟩ := id hU
  refine PM.of (by decide) (by decide) (Nat.le_refl _) (Nat.le_of_ble_eq_true rfl) ?_
  refine pw_iconst dX10_copyTo_0 ?_
  refine pw_istore dX10_copyTo_1 (by decide) ?_
  have lp3 : ∀ (kz : Nat) (i : Nat) (ma0 : pM), 4 - (i : Int) < (kz : Int) → (i ≤ 4) → (blk mem (chB mem a) b (kk (i : Int) 0 0 0 0) = ma0) → PW mi_X10_copyTo d n n (fun r ok' mem' => r = none ∧ ok = ok' ∧ rCopyTo mem a b = mem') 3 [(0, vr 88), (1, vi a), (2, vi b), (3, vi w), (4, vi (i : Int))] [] n ok ma0 := by
    intro kz
    induction kz with
    | zero =>
      intro i ma0 hk hi0 ha0
      exact absurd hk (by omega)
    | succ kz ih =>
      intro i ma0 hk hi0 ha0
      refine pw_iload dX10_copyTo_3 rfl ?_
      refine pw_iconst dX10_copyTo_5 ?_
      refine pw_icmp_ge 37 (by decide) dX10_copyTo_6 (by omega) (by omega) (fun c6 => ?_) (fun c6 => ?_)
      · skip
        have ei0 : i = 4 := by omega
        subst ei0
        refine pw_iconst dX10_copyTo_37 ?_
        refine pw_istore dX10_copyTo_38 (by decide) ?_
        have lp40 : ∀ (kz2 : Nat) (i : Nat) (ma1 : pM), 16 - (i : Int) < (kz2 : Int) → (i ≤ 16) → (blk mem (chB mem a) b (kk 4 (i : Int) 0 0 0) = ma1) → PW mi_X10_copyTo d n n (fun r ok' mem' => r = none ∧ ok = ok' ∧ rCopyTo mem a b = mem') 40 [(0, vr 88), (1, vi a), (2, vi b), (3, vi w), (4, vi (i : Int))] [] n ok ma1 := by
          intro kz2
          induction kz2 with
          | zero =>
            intro i ma1 hk2 hi1 ha1
            exact absurd hk2 (by omega)
          | succ kz2 ih2 =>
            intro i ma1 hk2 hi1 ha1
            refine pw_iload dX10_copyTo_40 rfl ?_
            refine pw_bipush dX10_copyTo_42 (by decide) ?_
            refine pw_icmp_ge 149 (by decide) dX10_copyTo_44 (by omega) (by omega) (fun c44 => ?_) (fun c44 => ?_)
            · skip
              have ei1 : i = 16 := by omega
              subst ei1
              refine pw_aload_n 0 rfl dX10_copyTo_149 rfl ?_
              refine pw_gR 9 94 dX10_copyTo_150 cOk10 (by assumption) (by decide) kw_1074 (by decide) rfl ?_
              refine pw_iload_n 2 rfl dX10_copyTo_153 rfl ?_
              refine pw_aload_n 0 rfl dX10_copyTo_154 rfl ?_
              refine pw_gR 9 94 dX10_copyTo_155 cOk10 (by assumption) (by decide) kw_1074 (by decide) rfl ?_
              refine pw_iload_n 1 rfl dX10_copyTo_158 rfl ?_
              refine pw_iaload dX10_copyTo_159 (by assumption) (by omega) (by omega) (fun r159 => ?_)
              have el : ma1 94 a = mem 94 a := blk_r ha1 94 _ (by show ¬ (b ≤ _ ∧ _ < b + _); show ¬ (_ ≤ _ ∧ _ < _ + 0); omega)
              rw [el] at r159 ⊢
              refine pw_iastore dX10_copyTo_160 (by assumption) (by omega) (by omega) (by omega) ?_
              obtain ⟨mc94, em_mc94⟩ : ∃ x, x = wr ma1 94 b (mem 94 a) := ⟨_, rfl⟩
              rw [← em_mc94]
              have hc94 : blk mem (chB mem a) b (kUp (kk 4 16 0 0 0) 94) = mc94 := by rw [em_mc94]; exact blk_s ha1 94 (by omega) (by show 0 ≤ (0 : Int); omega) (by show _ = b + 0; rw [Int.add_zero]) (by show _ = mem 94 (a + 0); rw [Int.add_zero])
              have hc94 := (blk_k (fun a q1 q2 => (kk_c _ _ _ _ a q1 q2).symm)).trans hc94
              refine pw_iconst dX10_copyTo_161 ?_
              refine pw_istore dX10_copyTo_162 (by decide) ?_
              have lp164 : ∀ (kz3 : Nat) (i : Nat) (ma2 : pM), 40 - (i : Int) < (kz3 : Int) → (i ≤ 40) → (blk mem (chB mem a) b (kk 4 16 1 (i : Int) 0) = ma2) → PW mi_X10_copyTo d n n (fun r ok' mem' => r = none ∧ ok = ok' ∧ rCopyTo mem a b = mem') 164 [(0, vr 88), (1, vi a), (2, vi b), (3, vi w), (4, vi (i : Int))] [] n ok ma2 := by
                intro kz3
                induction kz3 with
                | zero =>
                  intro i ma2 hk3 hi2 ha2
                  exact absurd hk3 (by omega)
                | succ kz3 ih3 =>
                  intro i ma2 hk3 hi2 ha2
                  refine pw_iload dX10_copyTo_164 rfl ?_
                  refine pw_bipush dX10_copyTo_166 (by decide) ?_
                  refine pw_icmp_ge 249 (by decide) dX10_copyTo_168 (by omega) (by omega) (fun c168 => ?_) (fun c168 => ?_)
                  · skip
                    have ei2 : i = 40 := by omega
                    subst ei2
                    refine pw_iconst dX10_copyTo_249 ?_
                    refine pw_istore dX10_copyTo_250 (by decide) ?_
                    have lp252 : ∀ (kz4 : Nat) (i : Nat) (ma3 : pM), 240 - (i : Int) < (kz4 : Int) → (i ≤ 240) → (blk mem (chB mem a) b (kk 4 16 1 40 (i : Int)) = ma3) → PW mi_X10_copyTo d n n (fun r ok' mem' => r = none ∧ ok = ok' ∧ rCopyTo mem a b = mem') 252 [(0, vr 88), (1, vi a), (2, vi b), (3, vi w), (4, vi (i : Int))] [] n ok ma3 := by
                      intro kz4
                      induction kz4 with
                      | zero =>
                        intro i ma3 hk4 hi3 ha3
                        exact absurd hk4 (by omega)
                      | succ kz4 ih4 =>
                        intro i ma3 hk4 hi3 ha3
                        refine pw_iload dX10_copyTo_252 rfl ?_
                        refine pw_sipush dX10_copyTo_254 (by decide) ?_
                        refine pw_icmp_ge 292 (by decide) dX10_copyTo_257 (by omega) (by omega) (fun c257 => ?_) (fun c257 => ?_)
                        · skip
                          have ei3 : i = 240 := by omega
                          subst ei3
                          have hF : blkF mem (chB mem a) b = ma3 := ha3
                          have e99 : ma3 99 = mem 99 := blk_a ha3 99 (by omega)
                          have e100 : ma3 100 = mem 100 := blk_a ha3 100 (by omega)
                          refine pw_iload_n 3 rfl dX10_copyTo_292 rfl ?_
                          refine pw_if_eq 320 (by decide) dX10_copyTo_293 (by omega) (fun c293 => ?_) (fun c293 => ?_)
                          · skip
                            exfalso; omega
                          · skip
                            refine pw_aload_n 0 rfl dX10_copyTo_296 rfl ?_
                            refine pw_gR 14 99 dX10_copyTo_297 cOk10 (by assumption) (by decide) kw_1079 (by decide) rfl ?_
                            refine pw_iload_n 2 rfl dX10_copyTo_300 rfl ?_
                            refine pw_aload_n 0 rfl dX10_copyTo_301 rfl ?_
                            refine pw_gR 14 99 dX10_copyTo_302 cOk10 (by assumption) (by decide) kw_1079 (by decide) rfl ?_
                            refine pw_iload_n 1 rfl dX10_copyTo_305 rfl ?_
                            refine pw_iaload dX10_copyTo_306 (by assumption) (by omega) (by omega) (fun r306 => ?_)
                            rw [e99] at r306 ⊢
                            refine pw_iastore dX10_copyTo_307 (by assumption) (by omega) (by omega) (by omega) ?_
                            refine pw_aload_n 0 rfl dX10_copyTo_308 rfl ?_
                            refine pw_gR 15 100 dX10_copyTo_309 cOk10 (by assumption) (by decide) kw_1080 (by decide) rfl ?_
                            refine pw_iload_n 2 rfl dX10_copyTo_312 rfl ?_
                            refine pw_aload_n 0 rfl dX10_copyTo_313 rfl ?_
                            refine pw_gR 15 100 dX10_copyTo_314 cOk10 (by assumption) (by decide) kw_1080 (by decide) rfl ?_
                            refine pw_iload_n 1 rfl dX10_copyTo_317 rfl ?_
                            refine pw_iaload dX10_copyTo_318 (by assumption) (by omega) (by omega) (fun r318 => ?_)
                            rw [wr_a _ _ _ (by omega), e100] at r318 ⊢
                            refine pw_iastore dX10_copyTo_319 (by assumption) (by omega) (by omega) (by omega) ?_
                            refine pw_vret dX10_copyTo_320 rfl rfl ?_
                            rw [← hF]; exact ⟨rfl, rfl, rfl⟩
                        · skip
                          refine pw_aload_n 0 rfl dX10_copyTo_260 rfl ?_
                          refine pw_gR 13 98 dX10_copyTo_261 cOk10 (by assumption) (by decide) kw_1078 (by decide) rfl ?_
                          refine pw_sipush dX10_copyTo_264 (by decide) ?_
                          refine pw_iload_n 2 rfl dX10_copyTo_267 rfl ?_
                          refine pw_imul dX10_copyTo_268 ?_
                          refine pw_iload dX10_copyTo_269 rfl ?_
                          refine pw_iadd dX10_copyTo_271 ?_
                          refine pw_aload_n 0 rfl dX10_copyTo_272 rfl ?_
                          refine pw_gR 13 98 dX10_copyTo_273 cOk10 (by assumption) (by decide) kw_1078 (by decide) rfl ?_
                          refine pw_sipush dX10_copyTo_276 (by decide) ?_
                          refine pw_iload_n 1 rfl dX10_copyTo_279 rfl ?_
                          refine pw_imul dX10_copyTo_280 ?_
                          refine pw_iload dX10_copyTo_281 rfl ?_
                          refine pw_iadd dX10_copyTo_283 ?_
                          refine pw_iaload dX10_copyTo_284 (by assumption) (by omega) (by omega) (fun r284 => ?_)
                          have el : ma3 98 (240 * a + (i : Int)) = mem 98 (240 * a + (i : Int)) := blk_r ha3 98 _ (by show ¬ (240 * b ≤ _ ∧ _ < 240 * b + _); show ¬ (_ ≤ _ ∧ _ < _ + ((i : Int) : Int)); omega)
                          rw [el] at r284 ⊢
                          refine pw_iastore dX10_copyTo_285 (by assumption) (by omega) (by omega) (by omega) ?_
                          obtain ⟨mb3_0, em_mb3_0⟩ : ∃ x, x = wr ma3 98 (240 * b + (i : Int)) (mem 98 (240 * a + (i : Int))) := ⟨_, rfl⟩
                          rw [← em_mb3_0]
                          have hb3_0 : blk mem (chB mem a) b (kUp (kk 4 16 1 40 (i : Int)) 98) = mb3_0 := by rw [em_mb3_0]; exact blk_s ha3 98 (by omega) (by show 0 ≤ ((i : Int) : Int); omega) rfl rfl
                          refine pw_iinc dX10_copyTo_286 rfl (by decide) ?_
                          refine pw_goto 252 (by decide) dX10_copyTo_289 ?_
                          exact pw_locs _ rfl (ih4 (i + 1) _ (by omega) (by omega) ((blk_k (fun a q1 q2 => (kk_5 _ _ _ _ _ a q1 q2).symm)).trans hb3_0))
                    exact pw_locs _ rfl (lp252 241 0 ma2 (by omega) (by omega) ha2)
                  · skip
                    refine pw_aload_n 0 rfl dX10_copyTo_171 rfl ?_
                    refine pw_gR 10 95 dX10_copyTo_172 cOk10 (by assumption) (by decide) kw_1075 (by decide) rfl ?_
                    refine pw_bipush dX10_copyTo_175 (by decide) ?_
                    refine pw_iload_n 2 rfl dX10_copyTo_177 rfl ?_
                    refine pw_imul dX10_copyTo_178 ?_
                    refine pw_iload dX10_copyTo_179 rfl ?_
                    refine pw_iadd dX10_copyTo_181 ?_
                    refine pw_aload_n 0 rfl dX10_copyTo_182 rfl ?_
                    refine pw_gR 10 95 dX10_copyTo_183 cOk10 (by assumption) (by decide) kw_1075 (by decide) rfl ?_
                    refine pw_bipush dX10_copyTo_186 (by decide) ?_
                    refine pw_iload_n 1 rfl dX10_copyTo_188 rfl ?_
                    refine pw_imul dX10_copyTo_189 ?_
                    refine pw_iload dX10_copyTo_190 rfl ?_
                    refine pw_iadd dX10_copyTo_192 ?_
                    refine pw_iaload dX10_copyTo_193 (by assumption) (by omega) (by omega) (fun r193 => ?_)
                    have el : ma2 95 (40 * a + (i : Int)) = mem 95 (40 * a + (i : Int)) := blk_r ha2 95 _ (by show ¬ (40 * b ≤ _ ∧ _ < 40 * b + _); show ¬ (_ ≤ _ ∧ _ < _ + ((i : Int) : Int)); omega)
                    rw [el] at r193 ⊢
                    refine pw_iastore dX10_copyTo_194 (by assumption) (by omega) (by omega) (by omega) ?_
                    obtain ⟨mb2_0, em_mb2_0⟩ : ∃ x, x = wr ma2 95 (40 * b + (i : Int)) (mem 95 (40 * a + (i : Int))) := ⟨_, rfl⟩
                    rw [← em_mb2_0]
                    have hb2_0 : blk mem (chB mem a) b (kUp (kk 4 16 1 (i : Int) 0) 95) = mb2_0 := by rw [em_mb2_0]; exact blk_s ha2 95 (by omega) (by show 0 ≤ ((i : Int) : Int); omega) rfl rfl
                    refine pw_aload_n 0 rfl dX10_copyTo_195 rfl ?_
                    refine pw_gR 11 96 dX10_copyTo_196 cOk10 (by assumption) (by decide) kw_1076 (by decide) rfl ?_
                    refine pw_bipush dX10_copyTo_199 (by decide) ?_
                    refine pw_iload_n 2 rfl dX10_copyTo_201 rfl ?_
                    refine pw_imul dX10_copyTo_202 ?_
                    refine pw_iload dX10_copyTo_203 rfl ?_
                    refine pw_iadd dX10_copyTo_205 ?_
                    refine pw_aload_n 0 rfl dX10_copyTo_206 rfl ?_
                    refine pw_gR 11 96 dX10_copyTo_207 cOk10 (by assumption) (by decide) kw_1076 (by decide) rfl ?_
                    refine pw_bipush dX10_copyTo_210 (by decide) ?_
                    refine pw_iload_n 1 rfl dX10_copyTo_212 rfl ?_
                    refine pw_imul dX10_copyTo_213 ?_
                    refine pw_iload dX10_copyTo_214 rfl ?_
                    refine pw_iadd dX10_copyTo_216 ?_
                    refine pw_iaload dX10_copyTo_217 (by assumption) (by omega) (by omega) (fun r217 => ?_)
                    have el : mb2_0 96 (40 * a + (i : Int)) = mem 96 (40 * a + (i : Int)) := blk_r hb2_0 96 _ (by show ¬ (40 * b ≤ _ ∧ _ < 40 * b + _); show ¬ (_ ≤ _ ∧ _ < _ + ((i : Int) : Int)); omega)
                    rw [el] at r217 ⊢
                    refine pw_iastore dX10_copyTo_218 (by assumption) (by omega) (by omega) (by omega) ?_
                    obtain ⟨mb2_1, em_mb2_1⟩ : ∃ x, x = wr mb2_0 96 (40 * b + (i : Int)) (mem 96 (40 * a + (i : Int))) := ⟨_, rfl⟩
                    rw [← em_mb2_1]
                    have hb2_1 : blk mem (chB mem a) b (kUp (kUp (kk 4 16 1 (i : Int) 0) 95) 96) = mb2_1 := by rw [em_mb2_1]; exact blk_s hb2_0 96 (by omega) (by show 0 ≤ ((i : Int) : Int); omega) rfl rfl
                    refine pw_aload_n 0 rfl dX10_copyTo_219 rfl ?_
                    refine pw_gR 12 97 dX10_copyTo_220 cOk10 (by assumption) (by decide) kw_1077 (by decide) rfl ?_
                    refine pw_bipush dX10_copyTo_223 (by decide) ?_
                    refine pw_iload_n 2 rfl dX10_copyTo_225 rfl ?_
                    refine pw_imul dX10_copyTo_226 ?_
                    refine pw_iload dX10_copyTo_227 rfl ?_
                    refine pw_iadd dX10_copyTo_229 ?_
                    refine pw_aload_n 0 rfl dX10_copyTo_230 rfl ?_
                    refine pw_gR 12 97 dX10_copyTo_231 cOk10 (by assumption) (by decide) kw_1077 (by decide) rfl ?_
                    refine pw_bipush dX10_copyTo_234 (by decide) ?_
                    refine pw_iload_n 1 rfl dX10_copyTo_236 rfl ?_
                    refine pw_imul dX10_copyTo_237 ?_
                    refine pw_iload dX10_copyTo_238 rfl ?_
                    refine pw_iadd dX10_copyTo_240 ?_
                    refine pw_iaload dX10_copyTo_241 (by assumption) (by omega) (by omega) (fun r241 => ?_)
                    have el : mb2_1 97 (40 * a + (i : Int)) = mem 97 (40 * a + (i : Int)) := blk_r hb2_1 97 _ (by show ¬ (40 * b ≤ _ ∧ _ < 40 * b + _); show ¬ (_ ≤ _ ∧ _ < _ + ((i : Int) : Int)); omega)
                    rw [el] at r241 ⊢
                    refine pw_iastore dX10_copyTo_242 (by assumption) (by omega) (by omega) (by omega) ?_
                    obtain ⟨mb2_2, em_mb2_2⟩ : ∃ x, x = wr mb2_1 97 (40 * b + (i : Int)) (mem 97 (40 * a + (i : Int))) := ⟨_, rfl⟩
                    rw [← em_mb2_2]
                    have hb2_2 : blk mem (chB mem a) b (kUp (kUp (kUp (kk 4 16 1 (i : Int) 0) 95) 96) 97) = mb2_2 := by rw [em_mb2_2]; exact blk_s hb2_1 97 (by omega) (by show 0 ≤ ((i : Int) : Int); omega) rfl rfl
                    refine pw_iinc dX10_copyTo_243 rfl (by decide) ?_
                    refine pw_goto 164 (by decide) dX10_copyTo_246 ?_
                    exact pw_locs _ rfl (ih3 (i + 1) _ (by omega) (by omega) ((blk_k (fun a q1 q2 => (kk_3 _ _ _ _ _ a q1 q2).symm)).trans hb2_2))
              exact pw_locs _ rfl (lp164 41 0 mc94 (by omega) (by omega) hc94)
            · skip
              refine pw_aload_n 0 rfl dX10_copyTo_47 rfl ?_
              refine pw_gR 5 90 dX10_copyTo_48 cOk10 (by assumption) (by decide) kw_1070 (by decide) rfl ?_
              refine pw_bipush dX10_copyTo_51 (by decide) ?_
              refine pw_iload_n 2 rfl dX10_copyTo_53 rfl ?_
              refine pw_imul dX10_copyTo_54 ?_
              refine pw_iload dX10_copyTo_55 rfl ?_
              refine pw_iadd dX10_copyTo_57 ?_
              refine pw_aload_n 0 rfl dX10_copyTo_58 rfl ?_
              refine pw_gR 5 90 dX10_copyTo_59 cOk10 (by assumption) (by decide) kw_1070 (by decide) rfl ?_
              refine pw_bipush dX10_copyTo_62 (by decide) ?_
              refine pw_iload_n 1 rfl dX10_copyTo_64 rfl ?_
              refine pw_imul dX10_copyTo_65 ?_
              refine pw_iload dX10_copyTo_66 rfl ?_
              refine pw_iadd dX10_copyTo_68 ?_
              refine pw_iaload dX10_copyTo_69 (by assumption) (by omega) (by omega) (fun r69 => ?_)
              have el : ma1 90 (16 * a + (i : Int)) = mem 90 (16 * a + (i : Int)) := blk_r ha1 90 _ (by show ¬ (16 * b ≤ _ ∧ _ < 16 * b + _); show ¬ (_ ≤ _ ∧ _ < _ + ((i : Int) : Int)); omega)
              rw [el] at r69 ⊢
              refine pw_iastore dX10_copyTo_70 (by assumption) (by omega) (by omega) (by omega) ?_
              obtain ⟨mb1_0, em_mb1_0⟩ : ∃ x, x = wr ma1 90 (16 * b + (i : Int)) (mem 90 (16 * a + (i : Int))) := ⟨_, rfl⟩
              rw [← em_mb1_0]
              have hb1_0 : blk mem (chB mem a) b (kUp (kk 4 (i : Int) 0 0 0) 90) = mb1_0 := by rw [em_mb1_0]; exact blk_s ha1 90 (by omega) (by show 0 ≤ ((i : Int) : Int); omega) rfl rfl
              refine pw_aload_n 0 rfl dX10_copyTo_71 rfl ?_
              refine pw_gR 6 91 dX10_copyTo_72 cOk10 (by assumption) (by decide) kw_1071 (by decide) rfl ?_
              refine pw_bipush dX10_copyTo_75 (by decide) ?_
              refine pw_iload_n 2 rfl dX10_copyTo_77 rfl ?_
              refine pw_imul dX10_copyTo_78 ?_
              refine pw_iload dX10_copyTo_79 rfl ?_
              refine pw_iadd dX10_copyTo_81 ?_
              refine pw_aload_n 0 rfl dX10_copyTo_82 rfl ?_
              refine pw_gR 6 91 dX10_copyTo_83 cOk10 (by assumption) (by decide) kw_1071 (by decide) rfl ?_
              refine pw_bipush dX10_copyTo_86 (by decide) ?_
              refine pw_iload_n 1 rfl dX10_copyTo_88 rfl ?_
              refine pw_imul dX10_copyTo_89 ?_
              refine pw_iload dX10_copyTo_90 rfl ?_
              refine pw_iadd dX10_copyTo_92 ?_
              refine pw_iaload dX10_copyTo_93 (by assumption) (by omega) (by omega) (fun r93 => ?_)
              have el : mb1_0 91 (16 * a + (i : Int)) = mem 91 (16 * a + (i : Int)) := blk_r hb1_0 91 _ (by show ¬ (16 * b ≤ _ ∧ _ < 16 * b + _); show ¬ (_ ≤ _ ∧ _ < _ + ((i : Int) : Int)); omega)
              rw [el] at r93 ⊢
              refine pw_iastore dX10_copyTo_94 (by assumption) (by omega) (by omega) (by omega) ?_
              obtain ⟨mb1_1, em_mb1_1⟩ : ∃ x, x = wr mb1_0 91 (16 * b + (i : Int)) (mem 91 (16 * a + (i : Int))) := ⟨_, rfl⟩
              rw [← em_mb1_1]
              have hb1_1 : blk mem (chB mem a) b (kUp (kUp (kk 4 (i : Int) 0 0 0) 90) 91) = mb1_1 := by rw [em_mb1_1]; exact blk_s hb1_0 91 (by omega) (by show 0 ≤ ((i : Int) : Int); omega) rfl rfl
              refine pw_aload_n 0 rfl dX10_copyTo_95 rfl ?_
              refine pw_gR 7 92 dX10_copyTo_96 cOk10 (by assumption) (by decide) kw_1072 (by decide) rfl ?_
              refine pw_bipush dX10_copyTo_99 (by decide) ?_
              refine pw_iload_n 2 rfl dX10_copyTo_101 rfl ?_
              refine pw_imul dX10_copyTo_102 ?_
              refine pw_iload dX10_copyTo_103 rfl ?_
              refine pw_iadd dX10_copyTo_105 ?_
              refine pw_aload_n 0 rfl dX10_copyTo_106 rfl ?_
              refine pw_gR 7 92 dX10_copyTo_107 cOk10 (by assumption) (by decide) kw_1072 (by decide) rfl ?_
              refine pw_bipush dX10_copyTo_110 (by decide) ?_
              refine pw_iload_n 1 rfl dX10_copyTo_112 rfl ?_
              refine pw_imul dX10_copyTo_113 ?_
              refine pw_iload dX10_copyTo_114 rfl ?_
              refine pw_iadd dX10_copyTo_116 ?_
              refine pw_iaload dX10_copyTo_117 (by assumption) (by omega) (by omega) (fun r117 => ?_)
              have el : mb1_1 92 (16 * a + (i : Int)) = mem 92 (16 * a + (i : Int)) := blk_r hb1_1 92 _ (by show ¬ (16 * b ≤ _ ∧ _ < 16 * b + _); show ¬ (_ ≤ _ ∧ _ < _ + ((i : Int) : Int)); omega)
              rw [el] at r117 ⊢
              refine pw_iastore dX10_copyTo_118 (by assumption) (by omega) (by omega) (by omega) ?_
              obtain ⟨mb1_2, em_mb1_2⟩ : ∃ x, x = wr mb1_1 92 (16 * b + (i : Int)) (mem 92 (16 * a + (i : Int))) := ⟨_, rfl⟩
              rw [← em_mb1_2]
              have hb1_2 : blk mem (chB mem a) b (kUp (kUp (kUp (kk 4 (i : Int) 0 0 0) 90) 91) 92) = mb1_2 := by rw [em_mb1_2]; exact blk_s hb1_1 92 (by omega) (by show 0 ≤ ((i : Int) : Int); omega) rfl rfl
              refine pw_aload_n 0 rfl dX10_copyTo_119 rfl ?_
              refine pw_gR 8 93 dX10_copyTo_120 cOk10 (by assumption) (by decide) kw_1073 (by decide) rfl ?_
              refine pw_bipush dX10_copyTo_123 (by decide) ?_
              refine pw_iload_n 2 rfl dX10_copyTo_125 rfl ?_
              refine pw_imul dX10_copyTo_126 ?_
              refine pw_iload dX10_copyTo_127 rfl ?_
              refine pw_iadd dX10_copyTo_129 ?_
              refine pw_aload_n 0 rfl dX10_copyTo_130 rfl ?_
              refine pw_gR 8 93 dX10_copyTo_131 cOk10 (by assumption) (by decide) kw_1073 (by decide) rfl ?_
              refine pw_bipush dX10_copyTo_134 (by decide) ?_
              refine pw_iload_n 1 rfl dX10_copyTo_136 rfl ?_
              refine pw_imul dX10_copyTo_137 ?_
              refine pw_iload dX10_copyTo_138 rfl ?_
              refine pw_iadd dX10_copyTo_140 ?_
              refine pw_iaload dX10_copyTo_141 (by assumption) (by omega) (by omega) (fun r141 => ?_)
              have el : mb1_2 93 (16 * a + (i : Int)) = mem 93 (16 * a + (i : Int)) := blk_r hb1_2 93 _ (by show ¬ (16 * b ≤ _ ∧ _ < 16 * b + _); show ¬ (_ ≤ _ ∧ _ < _ + ((i : Int) : Int)); omega)
              rw [el] at r141 ⊢
              refine pw_iastore dX10_copyTo_142 (by assumption) (by omega) (by omega) (by omega) ?_
              obtain ⟨mb1_3, em_mb1_3⟩ : ∃ x, x = wr mb1_2 93 (16 * b + (i : Int)) (mem 93 (16 * a + (i : Int))) := ⟨_, rfl⟩
              rw [← em_mb1_3]
              have hb1_3 : blk mem (chB mem a) b (kUp (kUp (kUp (kUp (kk 4 (i : Int) 0 0 0) 90) 91) 92) 93) = mb1_3 := by rw [em_mb1_3]; exact blk_s hb1_2 93 (by omega) (by show 0 ≤ ((i : Int) : Int); omega) rfl rfl
              refine pw_iinc dX10_copyTo_143 rfl (by decide) ?_
              refine pw_goto 40 (by decide) dX10_copyTo_146 ?_
              exact pw_locs _ rfl (ih2 (i + 1) _ (by omega) (by omega) ((blk_k (fun a q1 q2 => (kk_4 _ _ _ _ _ a q1 q2).symm)).trans hb1_3))
        exact pw_locs _ rfl (lp40 17 0 ma0 (by omega) (by omega) ha0)
      · skip
        refine pw_aload_n 0 rfl dX10_copyTo_9 rfl ?_
        refine pw_gR 4 89 dX10_copyTo_10 cOk10 (by assumption) (by decide) kw_1069 (by decide) rfl ?_
        refine pw_iconst dX10_copyTo_13 ?_
        refine pw_iload_n 2 rfl dX10_copyTo_14 rfl ?_
        refine pw_imul dX10_copyTo_15 ?_
        refine pw_iload dX10_copyTo_16 rfl ?_
        refine pw_iadd dX10_copyTo_18 ?_
        refine pw_aload_n 0 rfl dX10_copyTo_19 rfl ?_
        refine pw_gR 4 89 dX10_copyTo_20 cOk10 (by assumption) (by decide) kw_1069 (by decide) rfl ?_
        refine pw_iconst dX10_copyTo_23 ?_
        refine pw_iload_n 1 rfl dX10_copyTo_24 rfl ?_
        refine pw_imul dX10_copyTo_25 ?_
        refine pw_iload dX10_copyTo_26 rfl ?_
        refine pw_iadd dX10_copyTo_28 ?_
        refine pw_iaload dX10_copyTo_29 (by assumption) (by omega) (by omega) (fun r29 => ?_)
        have el : ma0 89 (4 * a + (i : Int)) = mem 89 (4 * a + (i : Int)) := blk_r ha0 89 _ (by show ¬ (4 * b ≤ _ ∧ _ < 4 * b + _); show ¬ (_ ≤ _ ∧ _ < _ + ((i : Int) : Int)); omega)
        rw [el] at r29 ⊢
        refine pw_iastore dX10_copyTo_30 (by assumption) (by omega) (by omega) (by omega) ?_
        obtain ⟨mb0_0, em_mb0_0⟩ : ∃ x, x = wr ma0 89 (4 * b + (i : Int)) (mem 89 (4 * a + (i : Int))) := ⟨_, rfl⟩
        rw [← em_mb0_0]
        have hb0_0 : blk mem (chB mem a) b (kUp (kk (i : Int) 0 0 0 0) 89) = mb0_0 := by rw [em_mb0_0]; exact blk_s ha0 89 (by omega) (by show 0 ≤ ((i : Int) : Int); omega) rfl rfl
        refine pw_iinc dX10_copyTo_31 rfl (by decide) ?_
        refine pw_goto 3 (by decide) dX10_copyTo_34 ?_
        exact pw_locs _ rfl (ih (i + 1) _ (by omega) (by omega) ((blk_k (fun a q1 q2 => (kk_1 _ _ _ _ _ a q1 q2).symm)).trans hb0_0))
  exact pw_locs _ rfl (lp3 5 0 mem (by omega) (by omega) (blk_0 _ _ _))
def rCopy (m : pM) (a b : Int) : Int × pM := if ¬ (0 ≤ a ∧ a ≤ 2) ∨ ¬ (0 ≤ b ∧ b ≤ 2) then rRef m (-2) else rSay (rChg (rCopyTo m a b) b) (aParts (rChg (rCopyTo m a b) b) b 16)
set_option maxHeartbeats 4000000 in
set_option maxRecDepth 100000 in
theorem r_copy (d : Nat) (hd : 2 ≤ d) (n : Nat) (ok : pO) (mem : pM) (hU : RefUp n ok) (a b : Int) (ha : -2147483648 ≤ a ∧ a ≤ 2147483647) (hb : -2147483648 ≤ b ∧ b ≤ 2147483647)  : PM mi_X10_copy d [vr 88, vi a, vi b] n ok mem n (fun r ok' mem' => r = some (vi (rCopy mem a b).1) ∧ ok = ok' ∧ (rCopy mem a b).2 = mem') := by
  obtain ⟨hO, ⟨a89, a90, a91, a92, a93, a94, a95, a96, a97, a98⟩, ⟨a99, a100, a101, a102, a103, a104, a105, a106, a107⟩, ⟨a108, a109, a110, a111, a112, a113, a114, a115, a116, a117, a118, a119⟩, a120, a121, a122⟩ := id hU
  refine PM.of (by decide) (by decide) (Nat.le_refl _) (Nat.le_of_ble_eq_true rfl) ?_
  refine pw_iload_n 1 rfl dX10_copy_0 rfl ?_
  refine pw_callS (d' := d - 1) (As := [_]) dX10_copy_1 ok_X10_isChest kw_1241 (by omega) rfl (Nat.le_of_ble_eq_true rfl) (r_isChest (d - 1) (by omega) n ok _ _ (by omega)) (Nat.le_refl _) (Or.inl rfl) (fun r ok1 mem1 hq => ?_)
  obtain ⟨rfl, rfl, rfl⟩ := hq
  refine pw_if_eq 14 (by decide) dX10_copy_4 (by split <;> omega) (fun c4 => ?_) (fun c4 => ?_)
  · skip
    rw [bz_0] at c4
    refine pw_aload_n 0 rfl dX10_copy_14 rfl ?_
    refine pw_bipush dX10_copy_15 (by decide) ?_
    refine pw_callV (d' := d - 1) (As := [_]) (ci := 10) dX10_copy_17 ok_X10_refuses kw_1249 rfl rfl (Of.o (by assumption)) (by omega) rfl (Nat.le_of_ble_eq_true rfl) (r_refuses (d - 1) (by omega) n ok _ hU _ (by omega)) (Nat.le_refl _) (Or.inl rfl) (fun r ok1 mem1 hq => ?_)
    obtain ⟨rfl, rfl, rfl⟩ := hq
    refine pw_iret dX10_copy_20 rfl rfl ?_
    unfold rCopy; (repeat' split) <;> first | exact ⟨rfl, rfl, rfl⟩ | (exfalso; omega)
  · skip
    rw [bz_n] at c4
    refine pw_iload_n 2 rfl dX10_copy_7 rfl ?_
    refine pw_callS (d' := d - 1) (As := [_]) dX10_copy_8 ok_X10_isChest kw_1241 (by omega) rfl (Nat.le_of_ble_eq_true rfl) (r_isChest (d - 1) (by omega) n ok _ _ (by omega)) (Nat.le_refl _) (Or.inl rfl) (fun r ok1 mem1 hq => ?_)
    obtain ⟨rfl, rfl, rfl⟩ := hq
    refine pw_if_ne 21 (by decide) dX10_copy_11 (by split <;> omega) (fun c11 => ?_) (fun c11 => ?_)
    · skip
      rw [ne_eq, bz_n] at c11
      refine pw_aload_n 0 rfl dX10_copy_21 rfl ?_
      refine pw_iload_n 1 rfl dX10_copy_22 rfl ?_
      refine pw_iload_n 2 rfl dX10_copy_23 rfl ?_
      refine pw_iconst dX10_copy_24 ?_
      refine pw_callV (d' := d - 1) (As := [_, _, _]) (ci := 10) dX10_copy_25 ok_X10_copyTo kw_1333 rfl rfl (Of.o (by assumption)) (by omega) rfl (Nat.le_of_ble_eq_true rfl) (r_copyTo (d - 1) (by omega) n ok _ hU _ _ _ (by omega) (by omega) rfl) (Nat.le_refl _) (Or.inl rfl) (fun r ok1 mem1 hq => ?_)
      obtain ⟨rfl, rfl, rfl⟩ := hq
      refine pw_aload_n 0 rfl dX10_copy_28 rfl ?_
      refine pw_iload_n 2 rfl dX10_copy_29 rfl ?_
      refine pw_callV (d' := d - 1) (As := [_]) (ci := 10) dX10_copy_30 ok_X10_changed kw_1261 rfl rfl (Of.o (by assumption)) (by omega) rfl (Nat.le_of_ble_eq_true rfl) (r_changed (d - 1) (by omega) n ok _ hU _ (by omega)) (Nat.le_refl _) (Or.inl rfl) (fun r ok1 mem1 hq => ?_)
      obtain ⟨rfl, rfl, rfl⟩ := hq
      refine pw_aload_n 0 rfl dX10_copy_33 rfl ?_
      refine pw_aload_n 0 rfl dX10_copy_34 rfl ?_
      refine pw_iload_n 2 rfl dX10_copy_35 rfl ?_
      refine pw_callV (d' := d - 1) (As := [_]) (ci := 10) dX10_copy_36 ok_X10_parts kw_1287 rfl rfl (Of.o (by assumption)) (by omega) rfl (Nat.le_of_ble_eq_true rfl) (r_parts (d - 1) (by omega) n ok _ hU _ (by omega)) (Nat.le_refl _) (Or.inl rfl) (fun r ok1 mem1 hq => ?_)
      obtain ⟨rfl, rfl, rfl⟩ := hq
      refine pw_callV (d' := d - 1) (As := [_]) (ci := 10) dX10_copy_39 ok_X10_says kw_1265 rfl rfl (Of.o (by assumption)) (by omega) rfl (Nat.le_of_ble_eq_true rfl) (r_says (d - 1) (by omega) n ok _ hU _) (Nat.le_refl _) (Or.inl rfl) (fun r ok1 mem1 hq => ?_)
      obtain ⟨rfl, rfl, rfl⟩ := hq
      refine pw_iret dX10_copy_42 rfl rfl ?_
      unfold rCopy; (repeat' split) <;> first | exact ⟨rfl, rfl, rfl⟩ | (exfalso; omega)
    · skip
      rw [bz_0] at c11
      refine pw_aload_n 0 rfl dX10_copy_14 rfl ?_
      refine pw_bipush dX10_copy_15 (by decide) ?_
      refine pw_callV (d' := d - 1) (As := [_]) (ci := 10) dX10_copy_17 ok_X10_refuses kw_1249 rfl rfl (Of.o (by assumption)) (by omega) rfl (Nat.le_of_ble_eq_true rfl) (r_refuses (d - 1) (by omega) n ok _ hU _ (by omega)) (Nat.le_refl _) (Or.inl rfl) (fun r ok1 mem1 hq => ?_)
      obtain ⟨rfl, rfl, rfl⟩ := hq
      refine pw_iret dX10_copy_20 rfl rfl ?_
      unfold rCopy; (repeat' split) <;> first | exact ⟨rfl, rfl, rfl⟩ | (exfalso; omega)
set_option maxHeartbeats 4000000 in
set_option maxRecDepth 100000 in
theorem r_putAside (d : Nat) (hd : 0 ≤ d) (n : Nat) (ok : pO) (mem : pM) (hU : RefUp n ok) (c : Int) (hc : 0 ≤ c ∧ c ≤ 2) : PM mi_X10_putAside d [vr 88, vi c] n ok mem n (fun r ok' mem' => r = none ∧ ok = ok' ∧ AS mem mem' c (kk 4 16 1 40 240)) := by
  obtain ⟨hO, ⟨a89, a90, a91, a92, a93, a94, a95, a96, a97, a98⟩, ⟨a99, a100, a101, a102, a103, a104, a105, a106, a107⟩, ⟨a108, a109, a110, a111, a112, a113, a114, a115, a116, a117, a118, a119⟩, a120, a121, a122⟩ := id hU
  refine PM.of (by decide) (by decide) (Nat.le_refl _) (Nat.le_of_ble_eq_true rfl) ?_
  refine pw_iconst dX10_putAside_0 ?_
  refine pw_istore_n 2 rfl dX10_putAside_1 (by decide) ?_
  have lp2 : ∀ (kz : Nat) (i : Nat) (ma0 : pM), 4 - (i : Int) < (kz : Int) → (i ≤ 4) → (AS mem ma0 c (kk (i : Int) 0 0 0 0)) → PW mi_X10_putAside d n n (fun r ok' mem' => r = none ∧ ok = ok' ∧ AS mem mem' c (kk 4 16 1 40 240)) 2 [(0, vr 88), (1, vi c), (2, vi (i : Int))] [] n ok ma0 := by
    intro kz
    induction kz with
    | zero =>
      intro i ma0 hk hi0 ha0
      exact absurd hk (by omega)
    | succ kz ih =>
      intro i ma0 hk hi0 ha0
      refine pw_iload_n 2 rfl dX10_putAside_2 rfl ?_
      refine pw_iconst dX10_putAside_3 ?_
      refine pw_icmp_ge 29 (by decide) dX10_putAside_4 (by omega) (by omega) (fun c4 => ?_) (fun c4 => ?_)
      · skip
        have ei0 : i = 4 := by omega
        subst ei0
        refine pw_iconst dX10_putAside_29 ?_
        refine pw_istore_n 2 rfl dX10_putAside_30 (by decide) ?_
        have lp31 : ∀ (kz2 : Nat) (i : Nat) (ma1 : pM), 16 - (i : Int) < (kz2 : Int) → (i ≤ 16) → (AS mem ma1 c (kk 4 (i : Int) 0 0 0)) → PW mi_X10_putAside d n n (fun r ok' mem' => r = none ∧ ok = ok' ∧ AS mem mem' c (kk 4 16 1 40 240)) 31 [(0, vr 88), (1, vi c), (2, vi (i : Int))] [] n ok ma1 := by
          intro kz2
          induction kz2 with
          | zero =>
            intro i ma1 hk2 hi1 ha1
            exact absurd hk2 (by omega)
          | succ kz2 ih2 =>
            intro i ma1 hk2 hi1 ha1
            refine pw_iload_n 2 rfl dX10_putAside_31 rfl ?_
            refine pw_bipush dX10_putAside_32 (by decide) ?_
            refine pw_icmp_ge 122 (by decide) dX10_putAside_34 (by omega) (by omega) (fun c34 => ?_) (fun c34 => ?_)
            · skip
              have ei1 : i = 16 := by omega
              subst ei1
              refine pw_aload_n 0 rfl dX10_putAside_122 rfl ?_
              refine pw_gR 22 105 dX10_putAside_123 cOk10 (by assumption) (by decide) kw_1087 (by decide) rfl ?_
              refine pw_bipush dX10_putAside_126 (by decide) ?_
              refine pw_aload_n 0 rfl dX10_putAside_128 rfl ?_
              refine pw_gR 9 94 dX10_putAside_129 cOk10 (by assumption) (by decide) kw_1074 (by decide) rfl ?_
              refine pw_iload_n 1 rfl dX10_putAside_132 rfl ?_
              refine pw_iaload dX10_putAside_133 (by assumption) (by omega) (by omega) (fun r133 => ?_)
              rw [ha1.1 94 (by omega)] at r133 ⊢
              refine pw_iastore dX10_putAside_134 (by assumption) (by omega) (by omega) (by omega) ?_
              obtain ⟨mc94, em_mc94⟩ : ∃ x, x = wr ma1 105 68 (mem 94 c) := ⟨_, rfl⟩
              rw [← em_mc94]
              have hc94 : AS mem mc94 c (kUp (kk 4 16 0 0 0) 94) := by rw [em_mc94]; exact ha1.s 94 (by omega) (fun b q1 q2 => by rcases (show b = 89 ∨ b = 90 ∨ b = 91 ∨ b = 92 ∨ b = 93 ∨ b = 94 ∨ b = 95 ∨ b = 96 ∨ b = 97 ∨ b = 98 by omega) with e | e | e | e | e | e | e | e | e | e <;> (subst e; simp only [kUp, kk]; (constructor <;> simp))) (by show (0 : Int) < _; show _ < (1 : Int); omega) (by show _ = (68 : Int) + (0 : Int); omega) (by show _ = mem 94 (c + 0); rw [Int.add_zero])
              have hc94 := hc94.k (fun a q1 q2 => kk_c _ _ _ _ a q1 q2)
              refine pw_iconst dX10_putAside_135 ?_
              refine pw_istore_n 2 rfl dX10_putAside_136 (by decide) ?_
              have lp137 : ∀ (kz3 : Nat) (i : Nat) (ma2 : pM), 40 - (i : Int) < (kz3 : Int) → (i ≤ 40) → (AS mem ma2 c (kk 4 16 1 (i : Int) 0)) → PW mi_X10_putAside d n n (fun r ok' mem' => r = none ∧ ok = ok' ∧ AS mem mem' c (kk 4 16 1 40 240)) 137 [(0, vr 88), (1, vi c), (2, vi (i : Int))] [] n ok ma2 := by
                intro kz3
                induction kz3 with
                | zero =>
                  intro i ma2 hk3 hi2 ha2
                  exact absurd hk3 (by omega)
                | succ kz3 ih3 =>
                  intro i ma2 hk3 hi2 ha2
                  refine pw_iload_n 2 rfl dX10_putAside_137 rfl ?_
                  refine pw_bipush dX10_putAside_138 (by decide) ?_
                  refine pw_icmp_ge 210 (by decide) dX10_putAside_140 (by omega) (by omega) (fun c140 => ?_) (fun c140 => ?_)
                  · skip
                    have ei2 : i = 40 := by omega
                    subst ei2
                    refine pw_iconst dX10_putAside_210 ?_
                    refine pw_istore_n 2 rfl dX10_putAside_211 (by decide) ?_
                    have lp212 : ∀ (kz4 : Nat) (i : Nat) (ma3 : pM), 240 - (i : Int) < (kz4 : Int) → (i ≤ 240) → (AS mem ma3 c (kk 4 16 1 40 (i : Int))) → PW mi_X10_putAside d n n (fun r ok' mem' => r = none ∧ ok = ok' ∧ AS mem mem' c (kk 4 16 1 40 240)) 212 [(0, vr 88), (1, vi c), (2, vi (i : Int))] [] n ok ma3 := by
                      intro kz4
                      induction kz4 with
                      | zero =>
                        intro i ma3 hk4 hi3 ha3
                        exact absurd hk4 (by omega)
                      | succ kz4 ih4 =>
                        intro i ma3 hk4 hi3 ha3
                        refine pw_iload_n 2 rfl dX10_putAside_212 rfl ?_
                        refine pw_sipush dX10_putAside_213 (by decide) ?_
                        refine pw_icmp_ge 247 (by decide) dX10_putAside_216 (by omega) (by omega) (fun c216 => ?_) (fun c216 => ?_)
                        · skip
                          have ei3 : i = 240 := by omega
                          subst ei3
                          refine pw_vret dX10_putAside_247 rfl rfl ?_
                          exact ⟨rfl, rfl, ha3⟩
                        · skip
                          refine pw_aload_n 0 rfl dX10_putAside_219 rfl ?_
                          refine pw_gR 22 105 dX10_putAside_220 cOk10 (by assumption) (by decide) kw_1087 (by decide) rfl ?_
                          refine pw_sipush dX10_putAside_223 (by decide) ?_
                          refine pw_iload_n 2 rfl dX10_putAside_226 rfl ?_
                          refine pw_iadd dX10_putAside_227 ?_
                          refine pw_aload_n 0 rfl dX10_putAside_228 rfl ?_
                          refine pw_gR 13 98 dX10_putAside_229 cOk10 (by assumption) (by decide) kw_1078 (by decide) rfl ?_
                          refine pw_sipush dX10_putAside_232 (by decide) ?_
                          refine pw_iload_n 1 rfl dX10_putAside_235 rfl ?_
                          refine pw_imul dX10_putAside_236 ?_
                          refine pw_iload_n 2 rfl dX10_putAside_237 rfl ?_
                          refine pw_iadd dX10_putAside_238 ?_
                          refine pw_iaload dX10_putAside_239 (by assumption) (by omega) (by omega) (fun r239 => ?_)
                          rw [ha3.1 98 (by omega)] at r239 ⊢
                          refine pw_iastore dX10_putAside_240 (by assumption) (by omega) (by omega) (by omega) ?_
                          obtain ⟨mb3_0, em_mb3_0⟩ : ∃ x, x = wr ma3 105 (200 + (i : Int)) (mem 98 (240 * c + (i : Int))) := ⟨_, rfl⟩
                          rw [← em_mb3_0]
                          have hb3_0 : AS mem mb3_0 c (kUp (kk 4 16 1 40 (i : Int)) 98) := by rw [em_mb3_0]; exact ha3.s 98 (by omega) (fun b q1 q2 => by rcases (show b = 89 ∨ b = 90 ∨ b = 91 ∨ b = 92 ∨ b = 93 ∨ b = 94 ∨ b = 95 ∨ b = 96 ∨ b = 97 ∨ b = 98 by omega) with e | e | e | e | e | e | e | e | e | e <;> (subst e; simp only [kUp, kk]; (constructor <;> simp <;> omega))) (by show ((i : Int) : Int) < _; show _ < (240 : Int); omega) (by show _ = (200 : Int) + ((i : Int) : Int); omega) rfl
                          refine pw_iinc dX10_putAside_241 rfl (by decide) ?_
                          refine pw_goto 212 (by decide) dX10_putAside_244 ?_
                          exact pw_locs _ rfl (ih4 (i + 1) _ (by omega) (by omega) (hb3_0.k (fun a q1 q2 => kk_5 _ _ _ _ _ a q1 q2)))
                    exact pw_locs _ rfl (lp212 241 0 ma2 (by omega) (by omega) ha2)
                  · skip
                    refine pw_aload_n 0 rfl dX10_putAside_143 rfl ?_
                    refine pw_gR 22 105 dX10_putAside_144 cOk10 (by assumption) (by decide) kw_1087 (by decide) rfl ?_
                    refine pw_bipush dX10_putAside_147 (by decide) ?_
                    refine pw_iload_n 2 rfl dX10_putAside_149 rfl ?_
                    refine pw_iadd dX10_putAside_150 ?_
                    refine pw_aload_n 0 rfl dX10_putAside_151 rfl ?_
                    refine pw_gR 10 95 dX10_putAside_152 cOk10 (by assumption) (by decide) kw_1075 (by decide) rfl ?_
                    refine pw_bipush dX10_putAside_155 (by decide) ?_
                    refine pw_iload_n 1 rfl dX10_putAside_157 rfl ?_
                    refine pw_imul dX10_putAside_158 ?_
                    refine pw_iload_n 2 rfl dX10_putAside_159 rfl ?_
                    refine pw_iadd dX10_putAside_160 ?_
                    refine pw_iaload dX10_putAside_161 (by assumption) (by omega) (by omega) (fun r161 => ?_)
                    rw [ha2.1 95 (by omega)] at r161 ⊢
                    refine pw_iastore dX10_putAside_162 (by assumption) (by omega) (by omega) (by omega) ?_
                    obtain ⟨mb2_0, em_mb2_0⟩ : ∃ x, x = wr ma2 105 (70 + (i : Int)) (mem 95 (40 * c + (i : Int))) := ⟨_, rfl⟩
                    rw [← em_mb2_0]
                    have hb2_0 : AS mem mb2_0 c (kUp (kk 4 16 1 (i : Int) 0) 95) := by rw [em_mb2_0]; exact ha2.s 95 (by omega) (fun b q1 q2 => by rcases (show b = 89 ∨ b = 90 ∨ b = 91 ∨ b = 92 ∨ b = 93 ∨ b = 94 ∨ b = 95 ∨ b = 96 ∨ b = 97 ∨ b = 98 by omega) with e | e | e | e | e | e | e | e | e | e <;> (subst e; simp only [kUp, kk]; (constructor <;> simp <;> omega))) (by show ((i : Int) : Int) < _; show _ < (40 : Int); omega) (by show _ = (70 : Int) + ((i : Int) : Int); omega) rfl
                    refine pw_aload_n 0 rfl dX10_putAside_163 rfl ?_
                    refine pw_gR 22 105 dX10_putAside_164 cOk10 (by assumption) (by decide) kw_1087 (by decide) rfl ?_
                    refine pw_bipush dX10_putAside_167 (by decide) ?_
                    refine pw_iload_n 2 rfl dX10_putAside_169 rfl ?_
                    refine pw_iadd dX10_putAside_170 ?_
                    refine pw_aload_n 0 rfl dX10_putAside_171 rfl ?_
                    refine pw_gR 11 96 dX10_putAside_172 cOk10 (by assumption) (by decide) kw_1076 (by decide) rfl ?_
                    refine pw_bipush dX10_putAside_175 (by decide) ?_
                    refine pw_iload_n 1 rfl dX10_putAside_177 rfl ?_
                    refine pw_imul dX10_putAside_178 ?_
                    refine pw_iload_n 2 rfl dX10_putAside_179 rfl ?_
                    refine pw_iadd dX10_putAside_180 ?_
                    refine pw_iaload dX10_putAside_181 (by assumption) (by omega) (by omega) (fun r181 => ?_)
                    rw [hb2_0.1 96 (by omega)] at r181 ⊢
                    refine pw_iastore dX10_putAside_182 (by assumption) (by omega) (by omega) (by omega) ?_
                    obtain ⟨mb2_1, em_mb2_1⟩ : ∃ x, x = wr mb2_0 105 (110 + (i : Int)) (mem 96 (40 * c + (i : Int))) := ⟨_, rfl⟩
                    rw [← em_mb2_1]
                    have hb2_1 : AS mem mb2_1 c (kUp (kUp (kk 4 16 1 (i : Int) 0) 95) 96) := by rw [em_mb2_1]; exact hb2_0.s 96 (by omega) (fun b q1 q2 => by rcases (show b = 89 ∨ b = 90 ∨ b = 91 ∨ b = 92 ∨ b = 93 ∨ b = 94 ∨ b = 95 ∨ b = 96 ∨ b = 97 ∨ b = 98 by omega) with e | e | e | e | e | e | e | e | e | e <;> (subst e; simp only [kUp, kk]; (constructor <;> simp <;> omega))) (by show ((i : Int) : Int) < _; show _ < (40 : Int); omega) (by show _ = (110 : Int) + ((i : Int) : Int); omega) rfl
                    refine pw_aload_n 0 rfl dX10_putAside_183 rfl ?_
                    refine pw_gR 22 105 dX10_putAside_184 cOk10 (by assumption) (by decide) kw_1087 (by decide) rfl ?_
                    refine pw_sipush dX10_putAside_187 (by decide) ?_
                    refine pw_iload_n 2 rfl dX10_putAside_190 rfl ?_
                    refine pw_iadd dX10_putAside_191 ?_
                    refine pw_aload_n 0 rfl dX10_putAside_192 rfl ?_
                    refine pw_gR 12 97 dX10_putAside_193 cOk10 (by assumption) (by decide) kw_1077 (by decide) rfl ?_
                    refine pw_bipush dX10_putAside_196 (by decide) ?_
                    refine pw_iload_n 1 rfl dX10_putAside_198 rfl ?_
                    refine pw_imul dX10_putAside_199 ?_
                    refine pw_iload_n 2 rfl dX10_putAside_200 rfl ?_
                    refine pw_iadd dX10_putAside_201 ?_
                    refine pw_iaload dX10_putAside_202 (by assumption) (by omega) (by omega) (fun r202 => ?_)
                    rw [hb2_1.1 97 (by omega)] at r202 ⊢
                    refine pw_iastore dX10_putAside_203 (by assumption) (by omega) (by omega) (by omega) ?_
                    obtain ⟨mb2_2, em_mb2_2⟩ : ∃ x, x = wr mb2_1 105 (150 + (i : Int)) (mem 97 (40 * c + (i : Int))) := ⟨_, rfl⟩
                    rw [← em_mb2_2]
                    have hb2_2 : AS mem mb2_2 c (kUp (kUp (kUp (kk 4 16 1 (i : Int) 0) 95) 96) 97) := by rw [em_mb2_2]; exact hb2_1.s 97 (by omega) (fun b q1 q2 => by rcases (show b = 89 ∨ b = 90 ∨ b = 91 ∨ b = 92 ∨ b = 93 ∨ b = 94 ∨ b = 95 ∨ b = 96 ∨ b = 97 ∨ b = 98 by omega) with e | e | e | e | e | e | e | e | e | e <;> (subst e; simp only [kUp, kk]; (constructor <;> simp <;> omega))) (by show ((i : Int) : Int) < _; show _ < (40 : Int); omega) (by show _ = (150 : Int) + ((i : Int) : Int); omega) rfl
                    refine pw_iinc dX10_putAside_204 rfl (by decide) ?_
                    refine pw_goto 137 (by decide) dX10_putAside_207 ?_
                    exact pw_locs _ rfl (ih3 (i + 1) _ (by omega) (by omega) (hb2_2.k (fun a q1 q2 => kk_3 _ _ _ _ _ a q1 q2)))
              exact pw_locs _ rfl (lp137 41 0 mc94 (by omega) (by omega) hc94)
            · skip
              refine pw_aload_n 0 rfl dX10_putAside_37 rfl ?_
              refine pw_gR 22 105 dX10_putAside_38 cOk10 (by assumption) (by decide) kw_1087 (by decide) rfl ?_
              refine pw_iconst dX10_putAside_41 ?_
              refine pw_iload_n 2 rfl dX10_putAside_42 rfl ?_
              refine pw_iadd dX10_putAside_43 ?_
              refine pw_aload_n 0 rfl dX10_putAside_44 rfl ?_
              refine pw_gR 5 90 dX10_putAside_45 cOk10 (by assumption) (by decide) kw_1070 (by decide) rfl ?_
              refine pw_bipush dX10_putAside_48 (by decide) ?_
              refine pw_iload_n 1 rfl dX10_putAside_50 rfl ?_
              refine pw_imul dX10_putAside_51 ?_
              refine pw_iload_n 2 rfl dX10_putAside_52 rfl ?_
              refine pw_iadd dX10_putAside_53 ?_
              refine pw_iaload dX10_putAside_54 (by assumption) (by omega) (by omega) (fun r54 => ?_)
              rw [ha1.1 90 (by omega)] at r54 ⊢
              refine pw_iastore dX10_putAside_55 (by assumption) (by omega) (by omega) (by omega) ?_
              obtain ⟨mb1_0, em_mb1_0⟩ : ∃ x, x = wr ma1 105 (4 + (i : Int)) (mem 90 (16 * c + (i : Int))) := ⟨_, rfl⟩
              rw [← em_mb1_0]
              have hb1_0 : AS mem mb1_0 c (kUp (kk 4 (i : Int) 0 0 0) 90) := by rw [em_mb1_0]; exact ha1.s 90 (by omega) (fun b q1 q2 => by rcases (show b = 89 ∨ b = 90 ∨ b = 91 ∨ b = 92 ∨ b = 93 ∨ b = 94 ∨ b = 95 ∨ b = 96 ∨ b = 97 ∨ b = 98 by omega) with e | e | e | e | e | e | e | e | e | e <;> (subst e; simp only [kUp, kk]; (constructor <;> simp <;> omega))) (by show ((i : Int) : Int) < _; show _ < (16 : Int); omega) (by show _ = (4 : Int) + ((i : Int) : Int); omega) rfl
              refine pw_aload_n 0 rfl dX10_putAside_56 rfl ?_
              refine pw_gR 22 105 dX10_putAside_57 cOk10 (by assumption) (by decide) kw_1087 (by decide) rfl ?_
              refine pw_bipush dX10_putAside_60 (by decide) ?_
              refine pw_iload_n 2 rfl dX10_putAside_62 rfl ?_
              refine pw_iadd dX10_putAside_63 ?_
              refine pw_aload_n 0 rfl dX10_putAside_64 rfl ?_
              refine pw_gR 6 91 dX10_putAside_65 cOk10 (by assumption) (by decide) kw_1071 (by decide) rfl ?_
              refine pw_bipush dX10_putAside_68 (by decide) ?_
              refine pw_iload_n 1 rfl dX10_putAside_70 rfl ?_
              refine pw_imul dX10_putAside_71 ?_
              refine pw_iload_n 2 rfl dX10_putAside_72 rfl ?_
              refine pw_iadd dX10_putAside_73 ?_
              refine pw_iaload dX10_putAside_74 (by assumption) (by omega) (by omega) (fun r74 => ?_)
              rw [hb1_0.1 91 (by omega)] at r74 ⊢
              refine pw_iastore dX10_putAside_75 (by assumption) (by omega) (by omega) (by omega) ?_
              obtain ⟨mb1_1, em_mb1_1⟩ : ∃ x, x = wr mb1_0 105 (20 + (i : Int)) (mem 91 (16 * c + (i : Int))) := ⟨_, rfl⟩
              rw [← em_mb1_1]
              have hb1_1 : AS mem mb1_1 c (kUp (kUp (kk 4 (i : Int) 0 0 0) 90) 91) := by rw [em_mb1_1]; exact hb1_0.s 91 (by omega) (fun b q1 q2 => by rcases (show b = 89 ∨ b = 90 ∨ b = 91 ∨ b = 92 ∨ b = 93 ∨ b = 94 ∨ b = 95 ∨ b = 96 ∨ b = 97 ∨ b = 98 by omega) with e | e | e | e | e | e | e | e | e | e <;> (subst e; simp only [kUp, kk]; (constructor <;> simp <;> omega))) (by show ((i : Int) : Int) < _; show _ < (16 : Int); omega) (by show _ = (20 : Int) + ((i : Int) : Int); omega) rfl
              refine pw_aload_n 0 rfl dX10_putAside_76 rfl ?_
              refine pw_gR 22 105 dX10_putAside_77 cOk10 (by assumption) (by decide) kw_1087 (by decide) rfl ?_
              refine pw_bipush dX10_putAside_80 (by decide) ?_
              refine pw_iload_n 2 rfl dX10_putAside_82 rfl ?_
              refine pw_iadd dX10_putAside_83 ?_
              refine pw_aload_n 0 rfl dX10_putAside_84 rfl ?_
              refine pw_gR 7 92 dX10_putAside_85 cOk10 (by assumption) (by decide) kw_1072 (by decide) rfl ?_
              refine pw_bipush dX10_putAside_88 (by decide) ?_
              refine pw_iload_n 1 rfl dX10_putAside_90 rfl ?_
              refine pw_imul dX10_putAside_91 ?_
              refine pw_iload_n 2 rfl dX10_putAside_92 rfl ?_
              refine pw_iadd dX10_putAside_93 ?_
              refine pw_iaload dX10_putAside_94 (by assumption) (by omega) (by omega) (fun r94 => ?_)
              rw [hb1_1.1 92 (by omega)] at r94 ⊢
              refine pw_iastore dX10_putAside_95 (by assumption) (by omega) (by omega) (by omega) ?_
              obtain ⟨mb1_2, em_mb1_2⟩ : ∃ x, x = wr mb1_1 105 (36 + (i : Int)) (mem 92 (16 * c + (i : Int))) := ⟨_, rfl⟩
              rw [← em_mb1_2]
              have hb1_2 : AS mem mb1_2 c (kUp (kUp (kUp (kk 4 (i : Int) 0 0 0) 90) 91) 92) := by rw [em_mb1_2]; exact hb1_1.s 92 (by omega) (fun b q1 q2 => by rcases (show b = 89 ∨ b = 90 ∨ b = 91 ∨ b = 92 ∨ b = 93 ∨ b = 94 ∨ b = 95 ∨ b = 96 ∨ b = 97 ∨ b = 98 by omega) with e | e | e | e | e | e | e | e | e | e <;> (subst e; simp only [kUp, kk]; (constructor <;> simp <;> omega))) (by show ((i : Int) : Int) < _; show _ < (16 : Int); omega) (by show _ = (36 : Int) + ((i : Int) : Int); omega) rfl
              refine pw_aload_n 0 rfl dX10_putAside_96 rfl ?_
              refine pw_gR 22 105 dX10_putAside_97 cOk10 (by assumption) (by decide) kw_1087 (by decide) rfl ?_
              refine pw_bipush dX10_putAside_100 (by decide) ?_
              refine pw_iload_n 2 rfl dX10_putAside_102 rfl ?_
              refine pw_iadd dX10_putAside_103 ?_
              refine pw_aload_n 0 rfl dX10_putAside_104 rfl ?_
              refine pw_gR 8 93 dX10_putAside_105 cOk10 (by assumption) (by decide) kw_1073 (by decide) rfl ?_
              refine pw_bipush dX10_putAside_108 (by decide) ?_
              refine pw_iload_n 1 rfl dX10_putAside_110 rfl ?_
              refine pw_imul dX10_putAside_111 ?_
              refine pw_iload_n 2 rfl dX10_putAside_112 rfl ?_
              refine pw_iadd dX10_putAside_113 ?_
              refine pw_iaload dX10_putAside_114 (by assumption) (by omega) (by omega) (fun r114 => ?_)
              rw [hb1_2.1 93 (by omega)] at r114 ⊢
              refine pw_iastore dX10_putAside_115 (by assumption) (by omega) (by omega) (by omega) ?_
              obtain ⟨mb1_3, em_mb1_3⟩ : ∃ x, x = wr mb1_2 105 (52 + (i : Int)) (mem 93 (16 * c + (i : Int))) := ⟨_, rfl⟩
              rw [← em_mb1_3]
              have hb1_3 : AS mem mb1_3 c (kUp (kUp (kUp (kUp (kk 4 (i : Int) 0 0 0) 90) 91) 92) 93) := by rw [em_mb1_3]; exact hb1_2.s 93 (by omega) (fun b q1 q2 => by rcases (show b = 89 ∨ b = 90 ∨ b = 91 ∨ b = 92 ∨ b = 93 ∨ b = 94 ∨ b = 95 ∨ b = 96 ∨ b = 97 ∨ b = 98 by omega) with e | e | e | e | e | e | e | e | e | e <;> (subst e; simp only [kUp, kk]; (constructor <;> simp <;> omega))) (by show ((i : Int) : Int) < _; show _ < (16 : Int); omega) (by show _ = (52 : Int) + ((i : Int) : Int); omega) rfl
              refine pw_iinc dX10_putAside_116 rfl (by decide) ?_
              refine pw_goto 31 (by decide) dX10_putAside_119 ?_
              exact pw_locs _ rfl (ih2 (i + 1) _ (by omega) (by omega) (hb1_3.k (fun a q1 q2 => kk_4 _ _ _ _ _ a q1 q2)))
        exact pw_locs _ rfl (lp31 17 0 ma0 (by omega) (by omega) ha0)
      · skip
        refine pw_aload_n 0 rfl dX10_putAside_7 rfl ?_
        refine pw_gR 22 105 dX10_putAside_8 cOk10 (by assumption) (by decide) kw_1087 (by decide) rfl ?_
        refine pw_iload_n 2 rfl dX10_putAside_11 rfl ?_
        refine pw_aload_n 0 rfl dX10_putAside_12 rfl ?_
        refine pw_gR 4 89 dX10_putAside_13 cOk10 (by assumption) (by decide) kw_1069 (by decide) rfl ?_
        refine pw_iconst dX10_putAside_16 ?_
        refine pw_iload_n 1 rfl dX10_putAside_17 rfl ?_
        refine pw_imul dX10_putAside_18 ?_
        refine pw_iload_n 2 rfl dX10_putAside_19 rfl ?_
        refine pw_iadd dX10_putAside_20 ?_
        refine pw_iaload dX10_putAside_21 (by assumption) (by omega) (by omega) (fun r21 => ?_)
        rw [ha0.1 89 (by omega)] at r21 ⊢
        refine pw_iastore dX10_putAside_22 (by assumption) (by omega) (by omega) (by omega) ?_
        obtain ⟨mb0_0, em_mb0_0⟩ : ∃ x, x = wr ma0 105 (i : Int) (mem 89 (4 * c + (i : Int))) := ⟨_, rfl⟩
        rw [← em_mb0_0]
        have hb0_0 : AS mem mb0_0 c (kUp (kk (i : Int) 0 0 0 0) 89) := by rw [em_mb0_0]; exact ha0.s 89 (by omega) (fun b q1 q2 => by rcases (show b = 89 ∨ b = 90 ∨ b = 91 ∨ b = 92 ∨ b = 93 ∨ b = 94 ∨ b = 95 ∨ b = 96 ∨ b = 97 ∨ b = 98 by omega) with e | e | e | e | e | e | e | e | e | e <;> (subst e; simp only [kUp, kk]; (constructor <;> simp <;> omega))) (by show ((i : Int) : Int) < _; show _ < (4 : Int); omega) (by show _ = (0 : Int) + ((i : Int) : Int); omega) rfl
        refine pw_iinc dX10_putAside_23 rfl (by decide) ?_
        refine pw_goto 2 (by decide) dX10_putAside_26 ?_
        exact pw_locs _ rfl (ih (i + 1) _ (by omega) (by omega) (hb0_0.k (fun a q1 q2 => kk_1 _ _ _ _ _ a q1 q2)))
  exact pw_locs _ rfl (lp2 5 0 mem (by omega) (by omega) (AS.n mem c))
set_option maxHeartbeats 4000000 in
set_option maxRecDepth 100000 in
theorem r_takeBack (d : Nat) (hd : 0 ≤ d) (n : Nat) (ok : pO) (mem : pM) (hU : RefUp n ok) (c : Int) (hc : 0 ≤ c ∧ c ≤ 2) : PM mi_X10_takeBack d [vr 88, vi c] n ok mem n (fun r ok' mem' => r = none ∧ ok = ok' ∧ blkF mem (fun a t => mem 105 (aso a + t)) c = mem') := by
  obtain ⟨hO, ⟨a89, a90, a91, a92, a93, a94, a95, a96, a97, a98⟩, ⟨a99, a100, a101, a102, a103, a104, a105, a106, a107⟩, ⟨a108, a109, a110, a111, a112, a113, a114, a115, a116, a117, a118, a119⟩, a120, a121, a122⟩ := id hU
  refine PM.of (by decide) (by decide) (Nat.le_refl _) (Nat.le_of_ble_eq_true rfl) ?_
  refine pw_iconst dX10_takeBack_0 ?_
  refine pw_istore_n 2 rfl dX10_takeBack_1 (by decide) ?_
  have lp2 : ∀ (kz : Nat) (i : Nat) (ma0 : pM), 4 - (i : Int) < (kz : Int) → (i ≤ 4) → (blk mem (fun a t => mem 105 (aso a + t)) c (kk (i : Int) 0 0 0 0) = ma0) → PW mi_X10_takeBack d n n (fun r ok' mem' => r = none ∧ ok = ok' ∧ blkF mem (fun a t => mem 105 (aso a + t)) c = mem') 2 [(0, vr 88), (1, vi c), (2, vi (i : Int))] [] n ok ma0 := by
    intro kz
    induction kz with
    | zero =>
      intro i ma0 hk hi0 ha0
      exact absurd hk (by omega)
    | succ kz ih =>
      intro i ma0 hk hi0 ha0
      refine pw_iload_n 2 rfl dX10_takeBack_2 rfl ?_
      refine pw_iconst dX10_takeBack_3 ?_
      refine pw_icmp_ge 29 (by decide) dX10_takeBack_4 (by omega) (by omega) (fun c4 => ?_) (fun c4 => ?_)
      · skip
        have ei0 : i = 4 := by omega
        subst ei0
        refine pw_iconst dX10_takeBack_29 ?_
        refine pw_istore_n 2 rfl dX10_takeBack_30 (by decide) ?_
        have lp31 : ∀ (kz2 : Nat) (i : Nat) (ma1 : pM), 16 - (i : Int) < (kz2 : Int) → (i ≤ 16) → (blk mem (fun a t => mem 105 (aso a + t)) c (kk 4 (i : Int) 0 0 0) = ma1) → PW mi_X10_takeBack d n n (fun r ok' mem' => r = none ∧ ok = ok' ∧ blkF mem (fun a t => mem 105 (aso a + t)) c = mem') 31 [(0, vr 88), (1, vi c), (2, vi (i : Int))] [] n ok ma1 := by
          intro kz2
          induction kz2 with
          | zero =>
            intro i ma1 hk2 hi1 ha1
            exact absurd hk2 (by omega)
          | succ kz2 ih2 =>
            intro i ma1 hk2 hi1 ha1
            refine pw_iload_n 2 rfl dX10_takeBack_31 rfl ?_
            refine pw_bipush dX10_takeBack_32 (by decide) ?_
            refine pw_icmp_ge 122 (by decide) dX10_takeBack_34 (by omega) (by omega) (fun c34 => ?_) (fun c34 => ?_)
            · skip
              have ei1 : i = 16 := by omega
              subst ei1
              refine pw_aload_n 0 rfl dX10_takeBack_122 rfl ?_
              refine pw_gR 9 94 dX10_takeBack_123 cOk10 (by assumption) (by decide) kw_1074 (by decide) rfl ?_
              refine pw_iload_n 1 rfl dX10_takeBack_126 rfl ?_
              refine pw_aload_n 0 rfl dX10_takeBack_127 rfl ?_
              refine pw_gR 22 105 dX10_takeBack_128 cOk10 (by assumption) (by decide) kw_1087 (by decide) rfl ?_
              refine pw_bipush dX10_takeBack_131 (by decide) ?_
              refine pw_iaload dX10_takeBack_133 (by assumption) (by omega) (by omega) (fun r133 => ?_)
              rw [blk_a ha1 105 (by omega)] at r133 ⊢
              refine pw_iastore dX10_takeBack_134 (by assumption) (by omega) (by omega) (by omega) ?_
              obtain ⟨mc94, em_mc94⟩ : ∃ x, x = wr ma1 94 c (mem 105 68) := ⟨_, rfl⟩
              rw [← em_mc94]
              have hc94 : blk mem (fun a t => mem 105 (aso a + t)) c (kUp (kk 4 16 0 0 0) 94) = mc94 := by rw [em_mc94]; exact blk_s ha1 94 (by omega) (by show 0 ≤ (0 : Int); omega) (by show _ = c + 0; rw [Int.add_zero]) (by show _ = mem 105 ((68 : Int) + (0 : Int)); congr 1; try omega)
              have hc94 := (blk_k (fun a q1 q2 => (kk_c _ _ _ _ a q1 q2).symm)).trans hc94
              refine pw_iconst dX10_takeBack_135 ?_
              refine pw_istore_n 2 rfl dX10_takeBack_136 (by decide) ?_
              have lp137 : ∀ (kz3 : Nat) (i : Nat) (ma2 : pM), 40 - (i : Int) < (kz3 : Int) → (i ≤ 40) → (blk mem (fun a t => mem 105 (aso a + t)) c (kk 4 16 1 (i : Int) 0) = ma2) → PW mi_X10_takeBack d n n (fun r ok' mem' => r = none ∧ ok = ok' ∧ blkF mem (fun a t => mem 105 (aso a + t)) c = mem') 137 [(0, vr 88), (1, vi c), (2, vi (i : Int))] [] n ok ma2 := by
                intro kz3
                induction kz3 with
                | zero =>
                  intro i ma2 hk3 hi2 ha2
                  exact absurd hk3 (by omega)
                | succ kz3 ih3 =>
                  intro i ma2 hk3 hi2 ha2
                  refine pw_iload_n 2 rfl dX10_takeBack_137 rfl ?_
                  refine pw_bipush dX10_takeBack_138 (by decide) ?_
                  refine pw_icmp_ge 210 (by decide) dX10_takeBack_140 (by omega) (by omega) (fun c140 => ?_) (fun c140 => ?_)
                  · skip
                    have ei2 : i = 40 := by omega
                    subst ei2
                    refine pw_iconst dX10_takeBack_210 ?_
                    refine pw_istore_n 2 rfl dX10_takeBack_211 (by decide) ?_
                    have lp212 : ∀ (kz4 : Nat) (i : Nat) (ma3 : pM), 240 - (i : Int) < (kz4 : Int) → (i ≤ 240) → (blk mem (fun a t => mem 105 (aso a + t)) c (kk 4 16 1 40 (i : Int)) = ma3) → PW mi_X10_takeBack d n n (fun r ok' mem' => r = none ∧ ok = ok' ∧ blkF mem (fun a t => mem 105 (aso a + t)) c = mem') 212 [(0, vr 88), (1, vi c), (2, vi (i : Int))] [] n ok ma3 := by
                      intro kz4
                      induction kz4 with
                      | zero =>
                        intro i ma3 hk4 hi3 ha3
                        exact absurd hk4 (by omega)
                      | succ kz4 ih4 =>
                        intro i ma3 hk4 hi3 ha3
                        refine pw_iload_n 2 rfl dX10_takeBack_212 rfl ?_
                        refine pw_sipush dX10_takeBack_213 (by decide) ?_
                        refine pw_icmp_ge 247 (by decide) dX10_takeBack_216 (by omega) (by omega) (fun c216 => ?_) (fun c216 => ?_)
                        · skip
                          have ei3 : i = 240 := by omega
                          subst ei3
                          refine pw_vret dX10_takeBack_247 rfl rfl ?_
                          exact ⟨rfl, rfl, ha3⟩
                        · skip
                          refine pw_aload_n 0 rfl dX10_takeBack_219 rfl ?_
                          refine pw_gR 13 98 dX10_takeBack_220 cOk10 (by assumption) (by decide) kw_1078 (by decide) rfl ?_
                          refine pw_sipush dX10_takeBack_223 (by decide) ?_
                          refine pw_iload_n 1 rfl dX10_takeBack_226 rfl ?_
                          refine pw_imul dX10_takeBack_227 ?_
                          refine pw_iload_n 2 rfl dX10_takeBack_228 rfl ?_
                          refine pw_iadd dX10_takeBack_229 ?_
                          refine pw_aload_n 0 rfl dX10_takeBack_230 rfl ?_
                          refine pw_gR 22 105 dX10_takeBack_231 cOk10 (by assumption) (by decide) kw_1087 (by decide) rfl ?_
                          refine pw_sipush dX10_takeBack_234 (by decide) ?_
                          refine pw_iload_n 2 rfl dX10_takeBack_237 rfl ?_
                          refine pw_iadd dX10_takeBack_238 ?_
                          refine pw_iaload dX10_takeBack_239 (by assumption) (by omega) (by omega) (fun r239 => ?_)
                          rw [blk_a ha3 105 (by omega)] at r239 ⊢
                          refine pw_iastore dX10_takeBack_240 (by assumption) (by omega) (by omega) (by omega) ?_
                          obtain ⟨mb3_0, em_mb3_0⟩ : ∃ x, x = wr ma3 98 (240 * c + (i : Int)) (mem 105 (200 + (i : Int))) := ⟨_, rfl⟩
                          rw [← em_mb3_0]
                          have hb3_0 : blk mem (fun a t => mem 105 (aso a + t)) c (kUp (kk 4 16 1 40 (i : Int)) 98) = mb3_0 := by rw [em_mb3_0]; exact blk_s ha3 98 (by omega) (by show 0 ≤ ((i : Int) : Int); omega) rfl (by show _ = mem 105 ((200 : Int) + ((i : Int) : Int)); congr 1; try omega)
                          refine pw_iinc dX10_takeBack_241 rfl (by decide) ?_
                          refine pw_goto 212 (by decide) dX10_takeBack_244 ?_
                          exact pw_locs _ rfl (ih4 (i + 1) _ (by omega) (by omega) ((blk_k (fun a q1 q2 => (kk_5 _ _ _ _ _ a q1 q2).symm)).trans hb3_0))
                    exact pw_locs _ rfl (lp212 241 0 ma2 (by omega) (by omega) ha2)
                  · skip
                    refine pw_aload_n 0 rfl dX10_takeBack_143 rfl ?_
                    refine pw_gR 10 95 dX10_takeBack_144 cOk10 (by assumption) (by decide) kw_1075 (by decide) rfl ?_
                    refine pw_bipush dX10_takeBack_147 (by decide) ?_
                    refine pw_iload_n 1 rfl dX10_takeBack_149 rfl ?_
                    refine pw_imul dX10_takeBack_150 ?_
                    refine pw_iload_n 2 rfl dX10_takeBack_151 rfl ?_
                    refine pw_iadd dX10_takeBack_152 ?_
                    refine pw_aload_n 0 rfl dX10_takeBack_153 rfl ?_
                    refine pw_gR 22 105 dX10_takeBack_154 cOk10 (by assumption) (by decide) kw_1087 (by decide) rfl ?_
                    refine pw_bipush dX10_takeBack_157 (by decide) ?_
                    refine pw_iload_n 2 rfl dX10_takeBack_159 rfl ?_
                    refine pw_iadd dX10_takeBack_160 ?_
                    refine pw_iaload dX10_takeBack_161 (by assumption) (by omega) (by omega) (fun r161 => ?_)
                    rw [blk_a ha2 105 (by omega)] at r161 ⊢
                    refine pw_iastore dX10_takeBack_162 (by assumption) (by omega) (by omega) (by omega) ?_
                    obtain ⟨mb2_0, em_mb2_0⟩ : ∃ x, x = wr ma2 95 (40 * c + (i : Int)) (mem 105 (70 + (i : Int))) := ⟨_, rfl⟩
                    rw [← em_mb2_0]
                    have hb2_0 : blk mem (fun a t => mem 105 (aso a + t)) c (kUp (kk 4 16 1 (i : Int) 0) 95) = mb2_0 := by rw [em_mb2_0]; exact blk_s ha2 95 (by omega) (by show 0 ≤ ((i : Int) : Int); omega) rfl (by show _ = mem 105 ((70 : Int) + ((i : Int) : Int)); congr 1; try omega)
                    refine pw_aload_n 0 rfl dX10_takeBack_163 rfl ?_
                    refine pw_gR 11 96 dX10_takeBack_164 cOk10 (by assumption) (by decide) kw_1076 (by decide) rfl ?_
                    refine pw_bipush dX10_takeBack_167 (by decide) ?_
                    refine pw_iload_n 1 rfl dX10_takeBack_169 rfl ?_
                    refine pw_imul dX10_takeBack_170 ?_
                    refine pw_iload_n 2 rfl dX10_takeBack_171 rfl ?_
                    refine pw_iadd dX10_takeBack_172 ?_
                    refine pw_aload_n 0 rfl dX10_takeBack_173 rfl ?_
                    refine pw_gR 22 105 dX10_takeBack_174 cOk10 (by assumption) (by decide) kw_1087 (by decide) rfl ?_
                    refine pw_bipush dX10_takeBack_177 (by decide) ?_
                    refine pw_iload_n 2 rfl dX10_takeBack_179 rfl ?_
                    refine pw_iadd dX10_takeBack_180 ?_
                    refine pw_iaload dX10_takeBack_181 (by assumption) (by omega) (by omega) (fun r181 => ?_)
                    rw [blk_a hb2_0 105 (by omega)] at r181 ⊢
                    refine pw_iastore dX10_takeBack_182 (by assumption) (by omega) (by omega) (by omega) ?_
                    obtain ⟨mb2_1, em_mb2_1⟩ : ∃ x, x = wr mb2_0 96 (40 * c + (i : Int)) (mem 105 (110 + (i : Int))) := ⟨_, rfl⟩
                    rw [← em_mb2_1]
                    have hb2_1 : blk mem (fun a t => mem 105 (aso a + t)) c (kUp (kUp (kk 4 16 1 (i : Int) 0) 95) 96) = mb2_1 := by rw [em_mb2_1]; exact blk_s hb2_0 96 (by omega) (by show 0 ≤ ((i : Int) : Int); omega) rfl (by show _ = mem 105 ((110 : Int) + ((i : Int) : Int)); congr 1; try omega)
                    refine pw_aload_n 0 rfl dX10_takeBack_183 rfl ?_
                    refine pw_gR 12 97 dX10_takeBack_184 cOk10 (by assumption) (by decide) kw_1077 (by decide) rfl ?_
                    refine pw_bipush dX10_takeBack_187 (by decide) ?_
                    refine pw_iload_n 1 rfl dX10_takeBack_189 rfl ?_
                    refine pw_imul dX10_takeBack_190 ?_
                    refine pw_iload_n 2 rfl dX10_takeBack_191 rfl ?_
                    refine pw_iadd dX10_takeBack_192 ?_
                    refine pw_aload_n 0 rfl dX10_takeBack_193 rfl ?_
                    refine pw_gR 22 105 dX10_takeBack_194 cOk10 (by assumption) (by decide) kw_1087 (by decide) rfl ?_
                    refine pw_sipush dX10_takeBack_197 (by decide) ?_
                    refine pw_iload_n 2 rfl dX10_takeBack_200 rfl ?_
                    refine pw_iadd dX10_takeBack_201 ?_
                    refine pw_iaload dX10_takeBack_202 (by assumption) (by omega) (by omega) (fun r202 => ?_)
                    rw [blk_a hb2_1 105 (by omega)] at r202 ⊢
                    refine pw_iastore dX10_takeBack_203 (by assumption) (by omega) (by omega) (by omega) ?_
                    obtain ⟨mb2_2, em_mb2_2⟩ : ∃ x, x = wr mb2_1 97 (40 * c + (i : Int)) (mem 105 (150 + (i : Int))) := ⟨_, rfl⟩
                    rw [← em_mb2_2]
                    have hb2_2 : blk mem (fun a t => mem 105 (aso a + t)) c (kUp (kUp (kUp (kk 4 16 1 (i : Int) 0) 95) 96) 97) = mb2_2 := by rw [em_mb2_2]; exact blk_s hb2_1 97 (by omega) (by show 0 ≤ ((i : Int) : Int); omega) rfl (by show _ = mem 105 ((150 : Int) + ((i : Int) : Int)); congr 1; try omega)
                    refine pw_iinc dX10_takeBack_204 rfl (by decide) ?_
                    refine pw_goto 137 (by decide) dX10_takeBack_207 ?_
                    exact pw_locs _ rfl (ih3 (i + 1) _ (by omega) (by omega) ((blk_k (fun a q1 q2 => (kk_3 _ _ _ _ _ a q1 q2).symm)).trans hb2_2))
              exact pw_locs _ rfl (lp137 41 0 mc94 (by omega) (by omega) hc94)
            · skip
              refine pw_aload_n 0 rfl dX10_takeBack_37 rfl ?_
              refine pw_gR 5 90 dX10_takeBack_38 cOk10 (by assumption) (by decide) kw_1070 (by decide) rfl ?_
              refine pw_bipush dX10_takeBack_41 (by decide) ?_
              refine pw_iload_n 1 rfl dX10_takeBack_43 rfl ?_
              refine pw_imul dX10_takeBack_44 ?_
              refine pw_iload_n 2 rfl dX10_takeBack_45 rfl ?_
              refine pw_iadd dX10_takeBack_46 ?_
              refine pw_aload_n 0 rfl dX10_takeBack_47 rfl ?_
              refine pw_gR 22 105 dX10_takeBack_48 cOk10 (by assumption) (by decide) kw_1087 (by decide) rfl ?_
              refine pw_iconst dX10_takeBack_51 ?_
              refine pw_iload_n 2 rfl dX10_takeBack_52 rfl ?_
              refine pw_iadd dX10_takeBack_53 ?_
              refine pw_iaload dX10_takeBack_54 (by assumption) (by omega) (by omega) (fun r54 => ?_)
              rw [blk_a ha1 105 (by omega)] at r54 ⊢
              refine pw_iastore dX10_takeBack_55 (by assumption) (by omega) (by omega) (by omega) ?_
              obtain ⟨mb1_0, em_mb1_0⟩ : ∃ x, x = wr ma1 90 (16 * c + (i : Int)) (mem 105 (4 + (i : Int))) := ⟨_, rfl⟩
              rw [← em_mb1_0]
              have hb1_0 : blk mem (fun a t => mem 105 (aso a + t)) c (kUp (kk 4 (i : Int) 0 0 0) 90) = mb1_0 := by rw [em_mb1_0]; exact blk_s ha1 90 (by omega) (by show 0 ≤ ((i : Int) : Int); omega) rfl (by show _ = mem 105 ((4 : Int) + ((i : Int) : Int)); congr 1; try omega)
              refine pw_aload_n 0 rfl dX10_takeBack_56 rfl ?_
              refine pw_gR 6 91 dX10_takeBack_57 cOk10 (by assumption) (by decide) kw_1071 (by decide) rfl ?_
              refine pw_bipush dX10_takeBack_60 (by decide) ?_
              refine pw_iload_n 1 rfl dX10_takeBack_62 rfl ?_
              refine pw_imul dX10_takeBack_63 ?_
              refine pw_iload_n 2 rfl dX10_takeBack_64 rfl ?_
              refine pw_iadd dX10_takeBack_65 ?_
              refine pw_aload_n 0 rfl dX10_takeBack_66 rfl ?_
              refine pw_gR 22 105 dX10_takeBack_67 cOk10 (by assumption) (by decide) kw_1087 (by decide) rfl ?_
              refine pw_bipush dX10_takeBack_70 (by decide) ?_
              refine pw_iload_n 2 rfl dX10_takeBack_72 rfl ?_
              refine pw_iadd dX10_takeBack_73 ?_
              refine pw_iaload dX10_takeBack_74 (by assumption) (by omega) (by omega) (fun r74 => ?_)
              rw [blk_a hb1_0 105 (by omega)] at r74 ⊢
              refine pw_iastore dX10_takeBack_75 (by assumption) (by omega) (by omega) (by omega) ?_
              obtain ⟨mb1_1, em_mb1_1⟩ : ∃ x, x = wr mb1_0 91 (16 * c + (i : Int)) (mem 105 (20 + (i : Int))) := ⟨_, rfl⟩
              rw [← em_mb1_1]
              have hb1_1 : blk mem (fun a t => mem 105 (aso a + t)) c (kUp (kUp (kk 4 (i : Int) 0 0 0) 90) 91) = mb1_1 := by rw [em_mb1_1]; exact blk_s hb1_0 91 (by omega) (by show 0 ≤ ((i : Int) : Int); omega) rfl (by show _ = mem 105 ((20 : Int) + ((i : Int) : Int)); congr 1; try omega)
              refine pw_aload_n 0 rfl dX10_takeBack_76 rfl ?_
              refine pw_gR 7 92 dX10_takeBack_77 cOk10 (by assumption) (by decide) kw_1072 (by decide) rfl ?_
              refine pw_bipush dX10_takeBack_80 (by decide) ?_
              refine pw_iload_n 1 rfl dX10_takeBack_82 rfl ?_
              refine pw_imul dX10_takeBack_83 ?_
              refine pw_iload_n 2 rfl dX10_takeBack_84 rfl ?_
              refine pw_iadd dX10_takeBack_85 ?_
              refine pw_aload_n 0 rfl dX10_takeBack_86 rfl ?_
              refine pw_gR 22 105 dX10_takeBack_87 cOk10 (by assumption) (by decide) kw_1087 (by decide) rfl ?_
              refine pw_bipush dX10_takeBack_90 (by decide) ?_
              refine pw_iload_n 2 rfl dX10_takeBack_92 rfl ?_
              refine pw_iadd dX10_takeBack_93 ?_
              refine pw_iaload dX10_takeBack_94 (by assumption) (by omega) (by omega) (fun r94 => ?_)
              rw [blk_a hb1_1 105 (by omega)] at r94 ⊢
              refine pw_iastore dX10_takeBack_95 (by assumption) (by omega) (by omega) (by omega) ?_
              obtain ⟨mb1_2, em_mb1_2⟩ : ∃ x, x = wr mb1_1 92 (16 * c + (i : Int)) (mem 105 (36 + (i : Int))) := ⟨_, rfl⟩
              rw [← em_mb1_2]
              have hb1_2 : blk mem (fun a t => mem 105 (aso a + t)) c (kUp (kUp (kUp (kk 4 (i : Int) 0 0 0) 90) 91) 92) = mb1_2 := by rw [em_mb1_2]; exact blk_s hb1_1 92 (by omega) (by show 0 ≤ ((i : Int) : Int); omega) rfl (by show _ = mem 105 ((36 : Int) + ((i : Int) : Int)); congr 1; try omega)
              refine pw_aload_n 0 rfl dX10_takeBack_96 rfl ?_
              refine pw_gR 8 93 dX10_takeBack_97 cOk10 (by assumption) (by decide) kw_1073 (by decide) rfl ?_
              refine pw_bipush dX10_takeBack_100 (by decide) ?_
              refine pw_iload_n 1 rfl dX10_takeBack_102 rfl ?_
              refine pw_imul dX10_takeBack_103 ?_
              refine pw_iload_n 2 rfl dX10_takeBack_104 rfl ?_
              refine pw_iadd dX10_takeBack_105 ?_
              refine pw_aload_n 0 rfl dX10_takeBack_106 rfl ?_
              refine pw_gR 22 105 dX10_takeBack_107 cOk10 (by assumption) (by decide) kw_1087 (by decide) rfl ?_
              refine pw_bipush dX10_takeBack_110 (by decide) ?_
              refine pw_iload_n 2 rfl dX10_takeBack_112 rfl ?_
              refine pw_iadd dX10_takeBack_113 ?_
              refine pw_iaload dX10_takeBack_114 (by assumption) (by omega) (by omega) (fun r114 => ?_)
              rw [blk_a hb1_2 105 (by omega)] at r114 ⊢
              refine pw_iastore dX10_takeBack_115 (by assumption) (by omega) (by omega) (by omega) ?_
              obtain ⟨mb1_3, em_mb1_3⟩ : ∃ x, x = wr mb1_2 93 (16 * c + (i : Int)) (mem 105 (52 + (i : Int))) := ⟨_, rfl⟩
              rw [← em_mb1_3]
              have hb1_3 : blk mem (fun a t => mem 105 (aso a + t)) c (kUp (kUp (kUp (kUp (kk 4 (i : Int) 0 0 0) 90) 91) 92) 93) = mb1_3 := by rw [em_mb1_3]; exact blk_s hb1_2 93 (by omega) (by show 0 ≤ ((i : Int) : Int); omega) rfl (by show _ = mem 105 ((52 : Int) + ((i : Int) : Int)); congr 1; try omega)
              refine pw_iinc dX10_takeBack_116 rfl (by decide) ?_
              refine pw_goto 31 (by decide) dX10_takeBack_119 ?_
              exact pw_locs _ rfl (ih2 (i + 1) _ (by omega) (by omega) ((blk_k (fun a q1 q2 => (kk_4 _ _ _ _ _ a q1 q2).symm)).trans hb1_3))
        exact pw_locs _ rfl (lp31 17 0 ma0 (by omega) (by omega) ha0)
      · skip
        refine pw_aload_n 0 rfl dX10_takeBack_7 rfl ?_
        refine pw_gR 4 89 dX10_takeBack_8 cOk10 (by assumption) (by decide) kw_1069 (by decide) rfl ?_
        refine pw_iconst dX10_takeBack_11 ?_
        refine pw_iload_n 1 rfl dX10_takeBack_12 rfl ?_
        refine pw_imul dX10_takeBack_13 ?_
        refine pw_iload_n 2 rfl dX10_takeBack_14 rfl ?_
        refine pw_iadd dX10_takeBack_15 ?_
        refine pw_aload_n 0 rfl dX10_takeBack_16 rfl ?_
        refine pw_gR 22 105 dX10_takeBack_17 cOk10 (by assumption) (by decide) kw_1087 (by decide) rfl ?_
        refine pw_iload_n 2 rfl dX10_takeBack_20 rfl ?_
        refine pw_iaload dX10_takeBack_21 (by assumption) (by omega) (by omega) (fun r21 => ?_)
        rw [blk_a ha0 105 (by omega)] at r21 ⊢
        refine pw_iastore dX10_takeBack_22 (by assumption) (by omega) (by omega) (by omega) ?_
        obtain ⟨mb0_0, em_mb0_0⟩ : ∃ x, x = wr ma0 89 (4 * c + (i : Int)) (mem 105 (i : Int)) := ⟨_, rfl⟩
        rw [← em_mb0_0]
        have hb0_0 : blk mem (fun a t => mem 105 (aso a + t)) c (kUp (kk (i : Int) 0 0 0 0) 89) = mb0_0 := by rw [em_mb0_0]; exact blk_s ha0 89 (by omega) (by show 0 ≤ ((i : Int) : Int); omega) rfl (by show _ = mem 105 ((0 : Int) + ((i : Int) : Int)); congr 1; try omega)
        refine pw_iinc dX10_takeBack_23 rfl (by decide) ?_
        refine pw_goto 2 (by decide) dX10_takeBack_26 ?_
        exact pw_locs _ rfl (ih (i + 1) _ (by omega) (by omega) ((blk_k (fun a q1 q2 => (kk_1 _ _ _ _ _ a q1 q2).symm)).trans hb0_0))
  exact pw_locs _ rfl (lp2 5 0 mem (by omega) (by omega) (blk_0 _ _ _))
