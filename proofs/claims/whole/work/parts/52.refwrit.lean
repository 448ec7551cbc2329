/-! ===== what a chest is, in full ===== -/
def cIn (m : pM) (c : Int) : Prop :=
  (∀ r, 0 ≤ r → r ≤ 3 → -1 ≤ m 89 (4 * c + r) ∧ m 89 (4 * c + r) ≤ 4) ∧
  (∀ s, 0 ≤ s → s ≤ 15 → m 90 (16 * c + s) = -1 ∨ ((0 ≤ m 90 (16 * c + s) ∧ m 90 (16 * c + s) ≤ 5) ∧ s % 4 < m 89 (4 * c + s / 4) ∧ (1 ≤ m 91 (16 * c + s) ∧ m 91 (16 * c + s) ≤ 6) ∧ (0 ≤ m 92 (16 * c + s) ∧ m 92 (16 * c + s) < m 91 (16 * c + s)) ∧ (0 ≤ m 93 (16 * c + s) ∧ m 93 (16 * c + s) ≤ 5) ∧ (m 90 (16 * c + s) = 5 → m 91 (16 * c + s) = 1))) ∧
  ((0 ≤ m 94 c ∧ m 94 c ≤ 40) ∧ ∀ k, 0 ≤ k → k < m 94 c → (-1 ≤ m 95 (40 * c + k) ∧ m 95 (40 * c + k) ≤ 15) ∧ (0 ≤ m 96 (40 * c + k) ∧ m 96 (40 * c + k) ≤ 15) ∧ (-1 ≤ m 97 (40 * c + k) ∧ m 97 (40 * c + k) ≤ 6) ∧ ∀ i, 0 ≤ i → i ≤ 5 → m 98 (6 * (40 * c + k) + i) = 0 ∨ m 98 (6 * (40 * c + k) + i) = 1) ∧
  (0 ≤ m 99 c ∧ m 99 c ≤ 99) ∧ (-1 ≤ m 100 c ∧ m 100 c ≤ 15) ∧ pW m c 16 ≤ 1024
theorem cIn.ok {m : pM} {c : Int} (h : cIn m c) : cOkR m c := by
  obtain ⟨h1, h2, h3, h4, h5, h6⟩ := h
  refine ⟨⟨h3.1, fun k k1 k2 => ?_, fun s s1 s2 s3 => ?_⟩, fun s s1 s2 s3 => ?_, h6⟩
  · have := h3.2 k k1 k2
    exact ⟨this.1, this.2.1, this.2.2.1⟩
  · rcases h2 s s1 s2 with q | q
    · exact absurd q s3
    · exact q.2.2.1
  · rcases h2 s s1 s2 with q | q
    · exact absurd q s3
    · exact q.2.2.2.1
/-! ===== a chest as it is written ===== -/
def nth : List Int → Nat → Int
  | [], _ => 0
  | x :: _, 0 => x
  | _ :: l, i + 1 => nth l i
theorem nth_l (l l2 : List Int) (i : Nat) (h : i < l.length) : nth (l ++ l2) i = nth l i := by
  induction l generalizing i with
  | nil => exact absurd h (Nat.not_lt_zero i)
  | cons x l ih =>
    cases i with
    | zero => rfl
    | succ i => exact ih i (Nat.lt_of_succ_lt_succ h)
theorem nth_e (l : List Int) (x : Int) : nth (l ++ [x]) l.length = x := by
  induction l with
  | nil => rfl
  | cons y l ih => exact ih
theorem nth_ext (l l2 : List Int) (hl : l.length = l2.length) (h : ∀ i, i < l.length → nth l i = nth l2 i) : l = l2 := by
  induction l generalizing l2 with
  | nil => cases l2 with
    | nil => rfl
    | cons y l2 => exact absurd hl (by simp)
  | cons x l ih => cases l2 with
    | nil => exact absurd hl (by simp)
    | cons y l2 =>
      have a := h 0 (by simp)
      have b := ih l2 (by simpa using hl) (fun i hi => h (i + 1) (by simp; omega))
      have a2 : x = y := a
      rw [a2, b]
def LW (m : pM) (a : Nat) (l : List Int) : Prop := ∀ i : Nat, i < l.length → m a i = nth l i
theorem LW_0 (m : pM) (a : Nat) : LW m a [] := fun i h => absurd h (Nat.not_lt_zero i)
theorem LW_w {m : pM} {a : Nat} {l : List Int} (h : LW m a l) {k : Int} (hk : k = l.length) (x : Int) : LW (wr m a k x) a (l ++ [x]) := fun i hi => by
  subst hk
  rw [List.length_append] at hi
  by_cases e : i = l.length
  · subst e; rw [wr_s, nth_e]
  · have e2 : i < l.length := by simp at hi; omega
    rw [wr_k _ _ _ _ (by omega), nth_l _ _ _ e2]; exact h i e2
theorem LW_m {m m1 : pM} {a : Nat} {l : List Int} (h : LW m a l) (e : m1 a = m a) : LW m1 a l := fun i hi => by rw [e]; exact h i hi
def rowB (m : pM) (c r : Int) : Nat → List Int
  | 0 => []
  | k + 1 => rowB m c r k ++ (if m 90 (16 * c + 4 * r + k) = -1 then [0] else [m 90 (16 * c + 4 * r + k) + 1, m 91 (16 * c + 4 * r + k), m 92 (16 * c + 4 * r + k), m 93 (16 * c + 4 * r + k)])
def rwsB (m : pM) (c : Int) : Nat → List Int
  | 0 => []
  | r + 1 => rwsB m c r ++ [if m 89 (4 * c + r) = -1 then 255 else m 89 (4 * c + r)] ++ rowB m c r (m 89 (4 * c + r)).toNat
def trB (m : pM) (q : Int) : Nat → List Int
  | 0 => []
  | i + 1 => trB m q i ++ [m 98 (6 * q + i)]
def cdB (m : pM) (c : Int) : Nat → List Int
  | 0 => []
  | k + 1 => cdB m c k ++ [m 95 (40 * c + k) + 1, m 96 (40 * c + k), if m 97 (40 * c + k) = -1 then 255 else m 97 (40 * c + k)] ++ trB m (40 * c + k) (m 97 (40 * c + k)).toNat
def wL (m : pM) (c : Int) : List Int := rwsB m c 4 ++ [m 94 c] ++ cdB m c (m 94 c).toNat ++ [m 99 c, m 100 c + 1]
def xF (f : Nat → Int) : Nat → Int
  | 0 => 0
  | k + 1 => iXor (xF f k) (f k)
theorem xF_e {f g : Nat → Int} (k : Nat) (h : ∀ i, i < k → f i = g i) : xF f k = xF g k := by
  induction k with
  | zero => rfl
  | succ k ih => show iXor _ _ = iXor _ _; rw [ih (fun i hi => h i (by omega)), h k (by omega)]
def wA (m : pM) (c : Int) : List Int := wL m c ++ [xF (nth (wL m c)) (wL m c).length]
theorem rowB_len (m : pM) (c r : Int) (k : Nat) : (rowB m c r k).length ≤ 4 * k := by
  induction k with
  | zero => exact Nat.le_refl _
  | succ k ih => unfold rowB; rw [List.length_append]; split <;> (simp only [List.length_cons, List.length_nil]; omega)
theorem rwsB_len {m : pM} {c : Int} (h : ∀ r, 0 ≤ r → r ≤ 3 → -1 ≤ m 89 (4 * c + r) ∧ m 89 (4 * c + r) ≤ 4) (r : Nat) (hr : r ≤ 4) : (rwsB m c r).length ≤ 17 * r := by
  induction r with
  | zero => exact Nat.le_refl _
  | succ r ih =>
    have a := ih (by omega)
    have b := h r (by omega) (by omega)
    have e := rowB_len m c r (m 89 (4 * c + r)).toNat
    unfold rwsB
    rw [List.length_append, List.length_append]
    simp only [List.length_cons, List.length_nil]
    omega
theorem trB_len (m : pM) (q : Int) (k : Nat) : (trB m q k).length = k := by
  induction k with
  | zero => rfl
  | succ k ih => unfold trB; rw [List.length_append, ih]; rfl
theorem cdB_len {m : pM} {c : Int} (h : ∀ k, 0 ≤ k → k < m 94 c → -1 ≤ m 97 (40 * c + k) ∧ m 97 (40 * c + k) ≤ 6) (k : Nat) (hk : (k : Int) ≤ m 94 c) : (cdB m c k).length ≤ 9 * k := by
  induction k with
  | zero => exact Nat.le_refl _
  | succ k ih =>
    have a := ih (by omega)
    have b := h k (by omega) (by omega)
    have e := trB_len m (40 * c + k) (m 97 (40 * c + k)).toNat
    unfold cdB
    rw [List.length_append, List.length_append]
    simp only [List.length_cons, List.length_nil]
    omega
theorem wL_len {m : pM} {c : Int} (h : cIn m c) : (wL m c).length ≤ 431 := by
  have a := rwsB_len h.1 4 (by omega)
  have b := cdB_len (fun k k1 k2 => (h.2.2.1.2 k k1 k2).2.2.1) (m 94 c).toNat (by have := h.2.2.1.1; omega)
  have e := h.2.2.1.1
  unfold wL
  rw [List.length_append, List.length_append, List.length_append]
  simp only [List.length_cons, List.length_nil]
  omega
theorem wA_len (m : pM) (c : Int) : (wA m c).length = (wL m c).length + 1 := by unfold wA; rw [List.length_append]; rfl
def FrW (a : Nat) (m m1 : pM) : Prop := ∀ b, b ≠ a → m1 b = m b
theorem FrW.w {a : Nat} {m m1 : pM} (h : FrW a m m1) (k x : Int) : FrW a m (wr m1 a k x) := fun b hb => by rw [wr_a _ _ _ hb]; exact h b hb
theorem xF_ran (f : Nat → Int) (k : Nat) : -2147483648 ≤ xF f k ∧ xF f k ≤ 2147483647 := by
  cases k with
  | zero => exact ⟨by show (-2147483648 : Int) ≤ 0; decide, by show (0 : Int) ≤ 2147483647; decide⟩
  | succ k => exact ⟨Int32.le_toInt _, by have := Int32.toInt_lt (Int32.ofInt (xF f k) ^^^ Int32.ofInt (f k)); show (Int32.ofInt (xF f k) ^^^ Int32.ofInt (f k)).toInt ≤ _; omega⟩
set_option maxHeartbeats 4000000 in
set_option maxRecDepth 100000 in
theorem r_writesOut (d : Nat) (hd : 0 ≤ d) (n : Nat) (ok : pO) (mem : pM) (hU : RefUp n ok) (c : Int) (hc : 0 ≤ c ∧ c ≤ 2) (hI : cIn mem c) : PM mi_X10_writesOut d [vr 88, vi c] n ok mem n (fun r ok' mem' => r = some (vi ((wA mem c).length : Int)) ∧ ok = ok' ∧ LW mem' 120 (wA mem c) ∧ FrW 120 mem mem') := by
  obtain ⟨hO, ⟨a89, a90, a91, a92, a93, a94, a95, a96, a97, a98⟩, ⟨a99, a100, a101, a102, a103, a104, a105, a106, a107⟩, ⟨a108, a109, a110, a111, a112, a113, a114, a115, a116, a117, a118, a119⟩, a120, a121, a122⟩ := id hU
  obtain ⟨h1, h2, h3, h4, h5, h6⟩ := id hI
  refine PM.of (by decide) (by decide) (Nat.le_refl _) (Nat.le_of_ble_eq_true rfl) ?_
  refine pw_iconst dX10_writesOut_0 ?_
  refine pw_istore_n 2 rfl dX10_writesOut_1 (by decide) ?_
  refine pw_iconst dX10_writesOut_2 ?_
  refine pw_istore_n 3 rfl dX10_writesOut_3 (by decide) ?_
  have lp4 : ∀ (kz : Nat) (r : Nat) (l : List Int) (w : Int) (m1 : pM), 4 - (r : Int) < (kz : Int) → (r ≤ 4) → (l = rwsB mem c r) → (w = l.length) → (LW m1 120 l) → (FrW 120 mem m1) → PW mi_X10_writesOut d n n (fun r ok' mem' => r = some (vi ((wA mem c).length : Int)) ∧ ok = ok' ∧ LW mem' 120 (wA mem c) ∧ FrW 120 mem mem') 4 [(0, vr 88), (1, vi c), (2, vi w), (3, vi (r : Int))] [] n ok m1 := by
    intro kz
    induction kz with
    | zero =>
      intro r l w m1 hk hr hl hw hL hFr
      exact absurd hk (by omega)
    | succ kz ih =>
      intro r l w m1 hk hr hl hw hL hFr
      have g89 : m1 89 = mem 89 := hFr 89 (by omega)
      have g90 : m1 90 = mem 90 := hFr 90 (by omega)
      have g91 : m1 91 = mem 91 := hFr 91 (by omega)
      have g92 : m1 92 = mem 92 := hFr 92 (by omega)
      have g93 : m1 93 = mem 93 := hFr 93 (by omega)
      have hlen := rwsB_len h1 r hr
      rw [← hl] at hlen
      refine pw_iload_n 3 rfl dX10_writesOut_4 rfl ?_
      refine pw_iconst dX10_writesOut_5 ?_
      refine pw_icmp_ge 154 (by decide) dX10_writesOut_6 (by omega) (by omega) (fun c6 => ?_) (fun c6 => ?_)
      · skip
        have er : r = 4 := by omega
        subst er
        have g94 : m1 94 = mem 94 := hFr 94 (by omega)
        refine pw_aload_n 0 rfl dX10_writesOut_154 rfl ?_
        refine pw_gR 53 120 dX10_writesOut_155 cOk10 (by assumption) (by decide) kw_1118 (by decide) rfl ?_
        refine pw_iload_n 2 rfl dX10_writesOut_158 rfl ?_
        refine pw_aload_n 0 rfl dX10_writesOut_159 rfl ?_
        refine pw_gR 9 94 dX10_writesOut_160 cOk10 (by assumption) (by decide) kw_1074 (by decide) rfl ?_
        refine pw_iload_n 1 rfl dX10_writesOut_163 rfl ?_
        refine pw_iaload dX10_writesOut_164 (by assumption) (by omega) (by omega) (fun r164 => ?_)
        try simp (disch := omega) only [wr_s, wr_a, wr_k] at r164 ⊢
        rw [g94] at r164 ⊢
        refine pw_iastore dX10_writesOut_165 (by assumption) (by omega) (by omega) (by omega) ?_
        obtain ⟨m2, em2⟩ : ∃ y, y = wr m1 120 w (mem 94 c) := ⟨_, rfl⟩
        have hLa := LW_w hL hw (mem 94 c)
        rw [← em2] at hLa ⊢
        have hFa : FrW 120 mem m2 := by rw [em2]; exact hFr.w _ _
        have hwa : w + 1 = ((l ++ [mem 94 c]).length : Int) := by rw [List.length_append]; simp only [List.length_cons, List.length_nil]; omega
        have hnc := h3.1
        refine pw_iinc dX10_writesOut_166 rfl (by decide) ?_
        refine pw_bipush dX10_writesOut_169 (by decide) ?_
        refine pw_iload_n 1 rfl dX10_writesOut_171 rfl ?_
        refine pw_imul dX10_writesOut_172 ?_
        refine pw_istore_n 3 rfl dX10_writesOut_173 (by decide) ?_
        have lp174 : ∀ (kz3 : Nat) (k : Nat) (q : Int) (l3 : List Int) (w3 : Int) (m1 : pM), mem 94 c - (k : Int) < (kz3 : Int) → (q = 40 * c + k) → ((k : Int) ≤ mem 94 c) → (l3 = l ++ [mem 94 c] ++ cdB mem c k) → (w3 = l3.length) → (LW m1 120 l3) → (FrW 120 mem m1) → PW mi_X10_writesOut d n n (fun r ok' mem' => r = some (vi ((wA mem c).length : Int)) ∧ ok = ok' ∧ LW mem' 120 (wA mem c) ∧ FrW 120 mem mem') 174 [(0, vr 88), (1, vi c), (2, vi w3), (3, vi q)] [] n ok m1 := by
          intro kz3
          induction kz3 with
          | zero =>
            intro k q l3 w3 m1 hk3 hq hk3 hl3 hw3 hL3 hFr3
            exact absurd hk3 (by omega)
          | succ kz3 ih3 =>
            intro k q l3 w3 m1 hk3 hq hk3 hl3 hw3 hL3 hFr3
            have g94 : m1 94 = mem 94 := hFr3 94 (by omega)
            have g95 : m1 95 = mem 95 := hFr3 95 (by omega)
            have g96 : m1 96 = mem 96 := hFr3 96 (by omega)
            have g97 : m1 97 = mem 97 := hFr3 97 (by omega)
            have g98 : m1 98 = mem 98 := hFr3 98 (by omega)
            have g99 : m1 99 = mem 99 := hFr3 99 (by omega)
            have g100 : m1 100 = mem 100 := hFr3 100 (by omega)
            have hlen3 : l3.length ≤ 69 + 9 * k := by
              have := cdB_len (fun k k1 k2 => (h3.2 k k1 k2).2.2.1) k hk3
              rw [hl3, List.length_append, List.length_append]; simp only [List.length_cons, List.length_nil]; omega
            refine pw_iload_n 3 rfl dX10_writesOut_174 rfl ?_
            refine pw_bipush dX10_writesOut_175 (by decide) ?_
            refine pw_iload_n 1 rfl dX10_writesOut_177 rfl ?_
            refine pw_imul dX10_writesOut_178 ?_
            refine pw_aload_n 0 rfl dX10_writesOut_179 rfl ?_
            refine pw_gR 9 94 dX10_writesOut_180 cOk10 (by assumption) (by decide) kw_1074 (by decide) rfl ?_
            refine pw_iload_n 1 rfl dX10_writesOut_183 rfl ?_
            refine pw_iaload dX10_writesOut_184 (by assumption) (by omega) (by omega) (fun r184 => ?_)
            try simp (disch := omega) only [wr_s, wr_a, wr_k] at r184 ⊢
            rw [g94] at r184 ⊢
            refine pw_iadd dX10_writesOut_185 ?_
            refine pw_icmp_ge 297 (by decide) dX10_writesOut_186 (by omega) (by omega) (fun c186 => ?_) (fun c186 => ?_)
            · skip
              have ek : k = (mem 94 c).toNat := by omega
              refine pw_aload_n 0 rfl dX10_writesOut_297 rfl ?_
              refine pw_gR 53 120 dX10_writesOut_298 cOk10 (by assumption) (by decide) kw_1118 (by decide) rfl ?_
              refine pw_iload_n 2 rfl dX10_writesOut_301 rfl ?_
              refine pw_aload_n 0 rfl dX10_writesOut_302 rfl ?_
              refine pw_gR 14 99 dX10_writesOut_303 cOk10 (by assumption) (by decide) kw_1079 (by decide) rfl ?_
              refine pw_iload_n 1 rfl dX10_writesOut_306 rfl ?_
              refine pw_iaload dX10_writesOut_307 (by assumption) (by omega) (by omega) (fun r307 => ?_)
              try simp (disch := omega) only [wr_s, wr_a, wr_k] at r307 ⊢
              rw [g99] at r307 ⊢
              refine pw_iastore dX10_writesOut_308 (by assumption) (by omega) (by omega) (by omega) ?_
              refine pw_aload_n 0 rfl dX10_writesOut_309 rfl ?_
              refine pw_gR 53 120 dX10_writesOut_310 cOk10 (by assumption) (by decide) kw_1118 (by decide) rfl ?_
              refine pw_iload_n 2 rfl dX10_writesOut_313 rfl ?_
              refine pw_iconst dX10_writesOut_314 ?_
              refine pw_iadd dX10_writesOut_315 ?_
              refine pw_aload_n 0 rfl dX10_writesOut_316 rfl ?_
              refine pw_gR 15 100 dX10_writesOut_317 cOk10 (by assumption) (by decide) kw_1080 (by decide) rfl ?_
              refine pw_iload_n 1 rfl dX10_writesOut_320 rfl ?_
              refine pw_iaload dX10_writesOut_321 (by assumption) (by omega) (by omega) (fun r321 => ?_)
              rw [wr_a _ _ _ (by omega), g100] at r321 ⊢
              refine pw_iconst dX10_writesOut_322 ?_
              refine pw_iadd dX10_writesOut_323 ?_
              refine pw_iastore dX10_writesOut_324 (by assumption) (by omega) (by omega) (by omega) ?_
              have hLa := LW_w (LW_w hL3 hw3 (mem 99 c)) (k := w3 + 1) (by rw [List.length_append]; simp only [List.length_cons, List.length_nil]; omega) (mem 100 c + 1)
              obtain ⟨m2, em2⟩ : ∃ y, y = wr (wr m1 120 w3 (mem 99 c)) 120 (w3 + 1) (mem 100 c + 1) := ⟨_, rfl⟩
              rw [← em2] at hLa ⊢
              have hFa : FrW 120 mem m2 := by rw [em2]; exact (hFr3.w _ _).w _ _
              have ewL : l3 ++ [mem 99 c] ++ [mem 100 c + 1] = wL mem c := by rw [hl3, hl, ek]; unfold wL; simp only [List.append_assoc, List.cons_append, List.nil_append]
              rw [ewL] at hLa
              have hwl : w3 + 2 = ((wL mem c).length : Int) := by rw [← ewL]; simp only [List.length_append, List.length_cons, List.length_nil]; omega
              have hmx := wL_len hI
              refine pw_iinc dX10_writesOut_325 rfl (by decide) ?_
              refine pw_iconst dX10_writesOut_328 ?_
              refine pw_istore_n 3 rfl dX10_writesOut_329 (by decide) ?_
              refine pw_iconst dX10_writesOut_330 ?_
              refine pw_istore dX10_writesOut_331 (by decide) ?_
              have lp333 : ∀ (kz5 : Nat) (i : Nat) (y : Int), (wL mem c).length - (i : Int) < (kz5 : Int) → (i ≤ (wL mem c).length) → (y = xF (nth (wL mem c)) i) → PW mi_X10_writesOut d n n (fun r ok' mem' => r = some (vi ((wA mem c).length : Int)) ∧ ok = ok' ∧ LW mem' 120 (wA mem c) ∧ FrW 120 mem mem') 333 [(0, vr 88), (1, vi c), (2, vi (w3 + 2)), (3, vi y), (4, vi (i : Int))] [] n ok m2 := by
                intro kz5
                induction kz5 with
                | zero =>
                  intro i y hk5 hi5 hy
                  exact absurd hk5 (by omega)
                | succ kz5 ih5 =>
                  intro i y hk5 hi5 hy
                  refine pw_iload dX10_writesOut_333 rfl ?_
                  refine pw_iload_n 2 rfl dX10_writesOut_335 rfl ?_
                  refine pw_icmp_ge 355 (by decide) dX10_writesOut_336 (by omega) (by omega) (fun c336 => ?_) (fun c336 => ?_)
                  · skip
                    have ei : i = (wL mem c).length := by omega
                    have hyr : -2147483648 ≤ y ∧ y ≤ 2147483647 := by rw [hy]; exact xF_ran _ _
                    refine pw_aload_n 0 rfl dX10_writesOut_355 rfl ?_
                    refine pw_gR 53 120 dX10_writesOut_356 cOk10 (by assumption) (by decide) kw_1118 (by decide) rfl ?_
                    refine pw_iload_n 2 rfl dX10_writesOut_359 rfl ?_
                    refine pw_iload_n 3 rfl dX10_writesOut_360 rfl ?_
                    refine pw_iastore dX10_writesOut_361 (by assumption) (by omega) (by omega) (by omega) ?_
                    refine pw_iload_n 2 rfl dX10_writesOut_362 rfl ?_
                    refine pw_iconst dX10_writesOut_363 ?_
                    refine pw_iadd dX10_writesOut_364 ?_
                    refine pw_iret dX10_writesOut_365 rfl rfl ?_
                    have eA : wL mem c ++ [y] = wA mem c := by unfold wA; rw [hy, ei]
                    refine ⟨congrArg (fun z => some (vi z)) ?_, rfl, ?_, ?_⟩
                    · rw [wA_len]; omega
                    · rw [← eA]; exact LW_w hLa hwl y
                    · exact hFa.w _ _
                  · skip
                    refine pw_iload_n 3 rfl dX10_writesOut_339 rfl ?_
                    refine pw_aload_n 0 rfl dX10_writesOut_340 rfl ?_
                    refine pw_gR 53 120 dX10_writesOut_341 cOk10 (by assumption) (by decide) kw_1118 (by decide) rfl ?_
                    refine pw_iload dX10_writesOut_344 rfl ?_
                    refine pw_iaload dX10_writesOut_346 (by assumption) (by omega) (by omega) (fun r346 => ?_)
                    try simp (disch := omega) only [wr_s, wr_a, wr_k] at r346 ⊢
                    refine pw_ixor dX10_writesOut_347 ?_
                    refine pw_istore_n 3 rfl dX10_writesOut_348 (by decide) ?_
                    refine pw_iinc dX10_writesOut_349 rfl (by decide) ?_
                    refine pw_goto 333 (by decide) dX10_writesOut_352 ?_
                    exact pw_locs _ rfl (ih5 (i + 1) _ (by omega) (by omega) (by show _ = iXor _ _; rw [hy, hLa i (by omega)]))
              exact pw_locs _ rfl (lp333 433 0 0 (by omega) (by omega) rfl)
            · skip
              have hcq := h3.2 k (by omega) (by omega)
              rw [← hq] at hcq
              refine pw_aload_n 0 rfl dX10_writesOut_189 rfl ?_
              refine pw_gR 53 120 dX10_writesOut_190 cOk10 (by assumption) (by decide) kw_1118 (by decide) rfl ?_
              refine pw_iload_n 2 rfl dX10_writesOut_193 rfl ?_
              refine pw_aload_n 0 rfl dX10_writesOut_194 rfl ?_
              refine pw_gR 10 95 dX10_writesOut_195 cOk10 (by assumption) (by decide) kw_1075 (by decide) rfl ?_
              refine pw_iload_n 3 rfl dX10_writesOut_198 rfl ?_
              refine pw_iaload dX10_writesOut_199 (by assumption) (by omega) (by omega) (fun r199 => ?_)
              try simp (disch := omega) only [wr_s, wr_a, wr_k] at r199 ⊢
              rw [g95] at r199 ⊢
              refine pw_iconst dX10_writesOut_200 ?_
              refine pw_iadd dX10_writesOut_201 ?_
              refine pw_iastore dX10_writesOut_202 (by assumption) (by omega) (by omega) (by omega) ?_
              refine pw_aload_n 0 rfl dX10_writesOut_203 rfl ?_
              refine pw_gR 53 120 dX10_writesOut_204 cOk10 (by assumption) (by decide) kw_1118 (by decide) rfl ?_
              refine pw_iload_n 2 rfl dX10_writesOut_207 rfl ?_
              refine pw_iconst dX10_writesOut_208 ?_
              refine pw_iadd dX10_writesOut_209 ?_
              refine pw_aload_n 0 rfl dX10_writesOut_210 rfl ?_
              refine pw_gR 11 96 dX10_writesOut_211 cOk10 (by assumption) (by decide) kw_1076 (by decide) rfl ?_
              refine pw_iload_n 3 rfl dX10_writesOut_214 rfl ?_
              refine pw_iaload dX10_writesOut_215 (by assumption) (by omega) (by omega) (fun r215 => ?_)
              rw [wr_a _ _ _ (by omega), g96] at r215 ⊢
              refine pw_iastore dX10_writesOut_216 (by assumption) (by omega) (by omega) (by omega) ?_
              refine pw_aload_n 0 rfl dX10_writesOut_217 rfl ?_
              refine pw_gR 53 120 dX10_writesOut_218 cOk10 (by assumption) (by decide) kw_1118 (by decide) rfl ?_
              refine pw_iload_n 2 rfl dX10_writesOut_221 rfl ?_
              refine pw_iconst dX10_writesOut_222 ?_
              refine pw_iadd dX10_writesOut_223 ?_
              refine pw_aload_n 0 rfl dX10_writesOut_224 rfl ?_
              refine pw_gR 12 97 dX10_writesOut_225 cOk10 (by assumption) (by decide) kw_1077 (by decide) rfl ?_
              refine pw_iload_n 3 rfl dX10_writesOut_228 rfl ?_
              refine pw_iaload dX10_writesOut_229 (by assumption) (by omega) (by omega) (fun r229 => ?_)
              rw [wr_a _ _ _ (by omega), wr_a _ _ _ (by omega), g97] at r229 ⊢
              refine pw_iconst dX10_writesOut_230 ?_
              refine pw_icmp_ne 240 (by decide) dX10_writesOut_231 (by omega) (by omega) (fun c231 => ?_) (fun c231 => ?_)
              · skip
                refine pw_aload_n 0 rfl dX10_writesOut_240 rfl ?_
                refine pw_gR 12 97 dX10_writesOut_241 cOk10 (by assumption) (by decide) kw_1077 (by decide) rfl ?_
                refine pw_iload_n 3 rfl dX10_writesOut_244 rfl ?_
                refine pw_iaload dX10_writesOut_245 (by assumption) (by omega) (by omega) (fun r245 => ?_)
                rw [wr_a _ _ _ (by omega), wr_a _ _ _ (by omega), g97] at r245 ⊢
                refine pw_iastore dX10_writesOut_246 (by assumption) (by omega) (by omega) (by omega) ?_
                obtain ⟨y9, ey9⟩ : ∃ y, y = mem 97 q := ⟨_, rfl⟩
                have eP : (if mem 97 q = -1 then 255 else mem 97 q) = y9 := by rw [ey9]; exact if_neg c231
                have hLa := LW_w (LW_w (LW_w hL3 hw3 (mem 95 q + 1)) (k := w3 + 1) (by rw [List.length_append]; simp only [List.length_cons, List.length_nil]; omega) (mem 96 q)) (k := w3 + 2) (by rw [List.length_append, List.length_append]; simp only [List.length_cons, List.length_nil]; omega) y9
                obtain ⟨m2, em2⟩ : ∃ y, y = wr (wr (wr m1 120 w3 (mem 95 q + 1)) 120 (w3 + 1) (mem 96 q)) 120 (w3 + 2) y9 := ⟨_, rfl⟩
                rw [← em2] at hLa
                rw [← ey9, ← em2]
                have hFa : FrW 120 mem m2 := by rw [em2]; exact ((hFr3.w _ _).w _ _).w _ _
                have hwa : w3 + 3 = ((l3 ++ [mem 95 q + 1] ++ [mem 96 q] ++ [y9]).length : Int) := by simp only [List.length_append, List.length_cons, List.length_nil]; omega
                have hla : l3 ++ [mem 95 q + 1] ++ [mem 96 q] ++ [y9] = l3 ++ [mem 95 q + 1, mem 96 q, if mem 97 q = -1 then 255 else mem 97 q] ++ trB mem q 0 := by rw [eP]; show _ = _ ++ []; simp only [List.append_assoc, List.cons_append, List.nil_append, List.append_nil]
                refine pw_iinc dX10_writesOut_247 rfl (by decide) ?_
                refine pw_iconst dX10_writesOut_250 ?_
                refine pw_istore dX10_writesOut_251 (by decide) ?_
                have lp253 : ∀ (kz4 : Nat) (i : Nat) (l4 : List Int) (w4 : Int) (m1 : pM), (mem 97 q).toNat - (i : Int) < (kz4 : Int) → (i ≤ (mem 97 q).toNat) → (l4 = l3 ++ [mem 95 q + 1, mem 96 q, if mem 97 q = -1 then 255 else mem 97 q] ++ trB mem q i) → (w4 = l4.length) → (LW m1 120 l4) → (FrW 120 mem m1) → PW mi_X10_writesOut d n n (fun r ok' mem' => r = some (vi ((wA mem c).length : Int)) ∧ ok = ok' ∧ LW mem' 120 (wA mem c) ∧ FrW 120 mem mem') 253 [(0, vr 88), (1, vi c), (2, vi w4), (3, vi q), (4, vi (i : Int))] [] n ok m1 := by
                  intro kz4
                  induction kz4 with
                  | zero =>
                    intro i l4 w4 m1 hk4 hi4 hl4 hw4 hL4 hFr4
                    exact absurd hk4 (by omega)
                  | succ kz4 ih4 =>
                    intro i l4 w4 m1 hk4 hi4 hl4 hw4 hL4 hFr4
                    have g97 : m1 97 = mem 97 := hFr4 97 (by omega)
                    have g98 : m1 98 = mem 98 := hFr4 98 (by omega)
                    have hlen4 : l4.length = l3.length + 3 + i := by
                      have := trB_len mem q i
                      rw [hl4, List.length_append, List.length_append, this]; simp only [List.length_cons, List.length_nil]
                    refine pw_iload dX10_writesOut_253 rfl ?_
                    refine pw_aload_n 0 rfl dX10_writesOut_255 rfl ?_
                    refine pw_gR 12 97 dX10_writesOut_256 cOk10 (by assumption) (by decide) kw_1077 (by decide) rfl ?_
                    refine pw_iload_n 3 rfl dX10_writesOut_259 rfl ?_
                    refine pw_iaload dX10_writesOut_260 (by assumption) (by omega) (by omega) (fun r260 => ?_)
                    try simp (disch := omega) only [wr_s, wr_a, wr_k] at r260 ⊢
                    rw [g97] at r260 ⊢
                    refine pw_icmp_ge 291 (by decide) dX10_writesOut_261 (by omega) (by omega) (fun c261 => ?_) (fun c261 => ?_)
                    · skip
                      refine pw_iinc dX10_writesOut_291 rfl (by decide) ?_
                      refine pw_goto 174 (by decide) dX10_writesOut_294 ?_
                      exact pw_locs _ rfl (ih3 (k + 1) (q + 1) l4 w4 _ (by omega) (by omega) (by omega) (by show _ = l ++ _ ++ (cdB mem c k ++ _ ++ _); rw [hl4, hl3, ← hq, show i = (mem 97 q).toNat by omega]; simp only [List.append_assoc]) hw4 hL4 hFr4)
                    · skip
                      refine pw_aload_n 0 rfl dX10_writesOut_264 rfl ?_
                      refine pw_gR 53 120 dX10_writesOut_265 cOk10 (by assumption) (by decide) kw_1118 (by decide) rfl ?_
                      refine pw_iload_n 2 rfl dX10_writesOut_268 rfl ?_
                      refine pw_aload_n 0 rfl dX10_writesOut_269 rfl ?_
                      refine pw_gR 13 98 dX10_writesOut_270 cOk10 (by assumption) (by decide) kw_1078 (by decide) rfl ?_
                      refine pw_bipush dX10_writesOut_273 (by decide) ?_
                      refine pw_iload_n 3 rfl dX10_writesOut_275 rfl ?_
                      refine pw_imul dX10_writesOut_276 ?_
                      refine pw_iload dX10_writesOut_277 rfl ?_
                      refine pw_iadd dX10_writesOut_279 ?_
                      refine pw_iaload dX10_writesOut_280 (by assumption) (by omega) (by omega) (fun r280 => ?_)
                      try simp (disch := omega) only [wr_s, wr_a, wr_k] at r280 ⊢
                      rw [g98] at r280 ⊢
                      refine pw_iastore dX10_writesOut_281 (by assumption) (by omega) (by omega) (by omega) ?_
                      refine pw_iinc dX10_writesOut_282 rfl (by decide) ?_
                      refine pw_iinc dX10_writesOut_285 rfl (by decide) ?_
                      refine pw_goto 253 (by decide) dX10_writesOut_288 ?_
                      exact pw_locs _ rfl (ih4 (i + 1) (l4 ++ [mem 98 (6 * q + i)]) (w4 + 1) _ (by omega) (by omega) (by show _ = l3 ++ _ ++ (trB mem q i ++ _); rw [hl4, List.append_assoc]) (by rw [List.length_append]; simp only [List.length_cons, List.length_nil]; omega) (LW_w hL4 hw4 _) (hFr4.w _ _))
                exact pw_locs _ rfl (lp253 7 0 _ (w3 + 3) m2 (by omega) (by omega) hla hwa hLa hFa)
              · skip
                refine pw_sipush dX10_writesOut_234 (by decide) ?_
                refine pw_goto 246 (by decide) dX10_writesOut_237 ?_
                refine pw_iastore dX10_writesOut_246 (by assumption) (by omega) (by omega) (by omega) ?_
                obtain ⟨y9, ey9⟩ : ∃ y : Int, y = 255 := ⟨_, rfl⟩
                have eP : (if mem 97 q = -1 then 255 else mem 97 q) = y9 := by rw [ey9]; exact if_pos (by omega)
                have hLa := LW_w (LW_w (LW_w hL3 hw3 (mem 95 q + 1)) (k := w3 + 1) (by rw [List.length_append]; simp only [List.length_cons, List.length_nil]; omega) (mem 96 q)) (k := w3 + 2) (by rw [List.length_append, List.length_append]; simp only [List.length_cons, List.length_nil]; omega) y9
                obtain ⟨m2, em2⟩ : ∃ y, y = wr (wr (wr m1 120 w3 (mem 95 q + 1)) 120 (w3 + 1) (mem 96 q)) 120 (w3 + 2) y9 := ⟨_, rfl⟩
                rw [← em2] at hLa
                rw [← ey9, ← em2]
                have hFa : FrW 120 mem m2 := by rw [em2]; exact ((hFr3.w _ _).w _ _).w _ _
                have hwa : w3 + 3 = ((l3 ++ [mem 95 q + 1] ++ [mem 96 q] ++ [y9]).length : Int) := by simp only [List.length_append, List.length_cons, List.length_nil]; omega
                have hla : l3 ++ [mem 95 q + 1] ++ [mem 96 q] ++ [y9] = l3 ++ [mem 95 q + 1, mem 96 q, if mem 97 q = -1 then 255 else mem 97 q] ++ trB mem q 0 := by rw [eP]; show _ = _ ++ []; simp only [List.append_assoc, List.cons_append, List.nil_append, List.append_nil]
                refine pw_iinc dX10_writesOut_247 rfl (by decide) ?_
                refine pw_iconst dX10_writesOut_250 ?_
                refine pw_istore dX10_writesOut_251 (by decide) ?_
                have lp253 : ∀ (kz4 : Nat) (i : Nat) (l4 : List Int) (w4 : Int) (m1 : pM), (mem 97 q).toNat - (i : Int) < (kz4 : Int) → (i ≤ (mem 97 q).toNat) → (l4 = l3 ++ [mem 95 q + 1, mem 96 q, if mem 97 q = -1 then 255 else mem 97 q] ++ trB mem q i) → (w4 = l4.length) → (LW m1 120 l4) → (FrW 120 mem m1) → PW mi_X10_writesOut d n n (fun r ok' mem' => r = some (vi ((wA mem c).length : Int)) ∧ ok = ok' ∧ LW mem' 120 (wA mem c) ∧ FrW 120 mem mem') 253 [(0, vr 88), (1, vi c), (2, vi w4), (3, vi q), (4, vi (i : Int))] [] n ok m1 := by
                  intro kz4
                  induction kz4 with
                  | zero =>
                    intro i l4 w4 m1 hk4 hi4 hl4 hw4 hL4 hFr4
                    exact absurd hk4 (by omega)
                  | succ kz4 ih4 =>
                    intro i l4 w4 m1 hk4 hi4 hl4 hw4 hL4 hFr4
                    have g97 : m1 97 = mem 97 := hFr4 97 (by omega)
                    have g98 : m1 98 = mem 98 := hFr4 98 (by omega)
                    have hlen4 : l4.length = l3.length + 3 + i := by
                      have := trB_len mem q i
                      rw [hl4, List.length_append, List.length_append, this]; simp only [List.length_cons, List.length_nil]
                    refine pw_iload dX10_writesOut_253 rfl ?_
                    refine pw_aload_n 0 rfl dX10_writesOut_255 rfl ?_
                    refine pw_gR 12 97 dX10_writesOut_256 cOk10 (by assumption) (by decide) kw_1077 (by decide) rfl ?_
                    refine pw_iload_n 3 rfl dX10_writesOut_259 rfl ?_
                    refine pw_iaload dX10_writesOut_260 (by assumption) (by omega) (by omega) (fun r260 => ?_)
                    try simp (disch := omega) only [wr_s, wr_a, wr_k] at r260 ⊢
                    rw [g97] at r260 ⊢
                    refine pw_icmp_ge 291 (by decide) dX10_writesOut_261 (by omega) (by omega) (fun c261 => ?_) (fun c261 => ?_)
                    · skip
                      refine pw_iinc dX10_writesOut_291 rfl (by decide) ?_
                      refine pw_goto 174 (by decide) dX10_writesOut_294 ?_
                      exact pw_locs _ rfl (ih3 (k + 1) (q + 1) l4 w4 _ (by omega) (by omega) (by omega) (by show _ = l ++ _ ++ (cdB mem c k ++ _ ++ _); rw [hl4, hl3, ← hq, show i = (mem 97 q).toNat by omega]; simp only [List.append_assoc]) hw4 hL4 hFr4)
                    · skip
                      refine pw_aload_n 0 rfl dX10_writesOut_264 rfl ?_
                      refine pw_gR 53 120 dX10_writesOut_265 cOk10 (by assumption) (by decide) kw_1118 (by decide) rfl ?_
                      refine pw_iload_n 2 rfl dX10_writesOut_268 rfl ?_
                      refine pw_aload_n 0 rfl dX10_writesOut_269 rfl ?_
                      refine pw_gR 13 98 dX10_writesOut_270 cOk10 (by assumption) (by decide) kw_1078 (by decide) rfl ?_
                      refine pw_bipush dX10_writesOut_273 (by decide) ?_
                      refine pw_iload_n 3 rfl dX10_writesOut_275 rfl ?_
                      refine pw_imul dX10_writesOut_276 ?_
                      refine pw_iload dX10_writesOut_277 rfl ?_
                      refine pw_iadd dX10_writesOut_279 ?_
                      refine pw_iaload dX10_writesOut_280 (by assumption) (by omega) (by omega) (fun r280 => ?_)
                      try simp (disch := omega) only [wr_s, wr_a, wr_k] at r280 ⊢
                      rw [g98] at r280 ⊢
                      refine pw_iastore dX10_writesOut_281 (by assumption) (by omega) (by omega) (by omega) ?_
                      refine pw_iinc dX10_writesOut_282 rfl (by decide) ?_
                      refine pw_iinc dX10_writesOut_285 rfl (by decide) ?_
                      refine pw_goto 253 (by decide) dX10_writesOut_288 ?_
                      exact pw_locs _ rfl (ih4 (i + 1) (l4 ++ [mem 98 (6 * q + i)]) (w4 + 1) _ (by omega) (by omega) (by show _ = l3 ++ _ ++ (trB mem q i ++ _); rw [hl4, List.append_assoc]) (by rw [List.length_append]; simp only [List.length_cons, List.length_nil]; omega) (LW_w hL4 hw4 _) (hFr4.w _ _))
                exact pw_locs _ rfl (lp253 7 0 _ (w3 + 3) m2 (by omega) (by omega) hla hwa hLa hFa)
        exact pw_locs _ rfl (lp174 41 0 (40 * c) _ (w + 1) m2 (by omega) (by omega) (by omega) (by show _ = _ ++ []; rw [List.append_nil]) hwa hLa hFa)
      · skip
        refine pw_aload_n 0 rfl dX10_writesOut_9 rfl ?_
        refine pw_gR 4 89 dX10_writesOut_10 cOk10 (by assumption) (by decide) kw_1069 (by decide) rfl ?_
        refine pw_iconst dX10_writesOut_13 ?_
        refine pw_iload_n 1 rfl dX10_writesOut_14 rfl ?_
        refine pw_imul dX10_writesOut_15 ?_
        refine pw_iload_n 3 rfl dX10_writesOut_16 rfl ?_
        refine pw_iadd dX10_writesOut_17 ?_
        refine pw_iaload dX10_writesOut_18 (by assumption) (by omega) (by omega) (fun r18 => ?_)
        try simp (disch := omega) only [wr_s, wr_a, wr_k] at r18 ⊢
        rw [g89] at r18 ⊢
        have hrr := h1 r (by omega) (by omega)
        refine pw_istore dX10_writesOut_19 (by decide) ?_
        refine pw_aload_n 0 rfl dX10_writesOut_21 rfl ?_
        refine pw_gR 53 120 dX10_writesOut_22 cOk10 (by assumption) (by decide) kw_1118 (by decide) rfl ?_
        refine pw_iload_n 2 rfl dX10_writesOut_25 rfl ?_
        refine pw_iload dX10_writesOut_26 rfl ?_
        refine pw_iconst dX10_writesOut_28 ?_
        refine pw_icmp_ne 38 (by decide) dX10_writesOut_29 (by omega) (by omega) (fun c29 => ?_) (fun c29 => ?_)
        · skip
          refine pw_iload dX10_writesOut_38 rfl ?_
          refine pw_iastore dX10_writesOut_40 (by assumption) (by omega) (by omega) (by omega) ?_
          have eP : (if mem 89 (4 * c + r) = -1 then 255 else mem 89 (4 * c + r)) = (mem 89 (4 * c + r)) := if_neg c29
          obtain ⟨m2, em2⟩ : ∃ y, y = wr m1 120 w (mem 89 (4 * c + r)) := ⟨_, rfl⟩
          have hLa : LW m2 120 (l ++ [if mem 89 (4 * c + r) = -1 then 255 else mem 89 (4 * c + r)]) := by rw [eP, em2]; exact LW_w hL hw _
          rw [← em2]
          have hFa : FrW 120 mem m2 := by rw [em2]; exact hFr.w _ _
          have hwa : w + 1 = ((l ++ [if mem 89 (4 * c + r) = -1 then 255 else mem 89 (4 * c + r)]).length : Int) := by rw [List.length_append]; simp only [List.length_cons, List.length_nil]; omega
          refine pw_iinc dX10_writesOut_41 rfl (by decide) ?_
          refine pw_iconst dX10_writesOut_44 ?_
          refine pw_istore dX10_writesOut_45 (by decide) ?_
          have lp47 : ∀ (kz2 : Nat) (k : Nat) (l2 : List Int) (w2 : Int) (m1 : pM), (mem 89 (4 * c + r)).toNat - (k : Int) < (kz2 : Int) → (k ≤ (mem 89 (4 * c + r)).toNat) → (l2 = l ++ [if mem 89 (4 * c + r) = -1 then 255 else mem 89 (4 * c + r)] ++ rowB mem c r k) → (w2 = l2.length) → (LW m1 120 l2) → (FrW 120 mem m1) → PW mi_X10_writesOut d n n (fun r ok' mem' => r = some (vi ((wA mem c).length : Int)) ∧ ok = ok' ∧ LW mem' 120 (wA mem c) ∧ FrW 120 mem mem') 47 [(0, vr 88), (1, vi c), (2, vi w2), (3, vi (r : Int)), (4, vi (mem 89 (4 * c + r))), (5, vi (k : Int))] [] n ok m1 := by
            intro kz2
            induction kz2 with
            | zero =>
              intro k l2 w2 m1 hk2 hk2 hl2 hw2 hL2 hFr2
              exact absurd hk2 (by omega)
            | succ kz2 ih2 =>
              intro k l2 w2 m1 hk2 hk2 hl2 hw2 hL2 hFr2
              have g89 : m1 89 = mem 89 := hFr2 89 (by omega)
              have g90 : m1 90 = mem 90 := hFr2 90 (by omega)
              have g91 : m1 91 = mem 91 := hFr2 91 (by omega)
              have g92 : m1 92 = mem 92 := hFr2 92 (by omega)
              have g93 : m1 93 = mem 93 := hFr2 93 (by omega)
              have hlen2 : l2.length ≤ 17 * r + 1 + 4 * k := by
                have := rowB_len mem c r k
                rw [hl2, List.length_append, List.length_append]; simp only [List.length_cons, List.length_nil]; omega
              refine pw_iload dX10_writesOut_47 rfl ?_
              refine pw_iload dX10_writesOut_49 rfl ?_
              refine pw_icmp_ge 148 (by decide) dX10_writesOut_51 (by omega) (by omega) (fun c51 => ?_) (fun c51 => ?_)
              · skip
                refine pw_iinc dX10_writesOut_148 rfl (by decide) ?_
                refine pw_goto 4 (by decide) dX10_writesOut_151 ?_
                exact pw_locs _ rfl (ih (r + 1) l2 w2 _ (by omega) (by omega) (by show _ = rwsB mem c r ++ _ ++ _; rw [hl2, hl, show k = (mem 89 (4 * c + r)).toNat by omega]) hw2 hL2 hFr2)
              · skip
                have hss : 0 ≤ 4 * (r : Int) + k ∧ 4 * (r : Int) + k ≤ 15 := by omega
                have hsq := h2 (4 * (r : Int) + k) hss.1 hss.2
                rw [← Int.add_assoc] at hsq
                refine pw_bipush dX10_writesOut_54 (by decide) ?_
                refine pw_iload_n 1 rfl dX10_writesOut_56 rfl ?_
                refine pw_imul dX10_writesOut_57 ?_
                refine pw_iconst dX10_writesOut_58 ?_
                refine pw_iload_n 3 rfl dX10_writesOut_59 rfl ?_
                refine pw_imul dX10_writesOut_60 ?_
                refine pw_iadd dX10_writesOut_61 ?_
                refine pw_iload dX10_writesOut_62 rfl ?_
                refine pw_iadd dX10_writesOut_64 ?_
                refine pw_istore dX10_writesOut_65 (by decide) ?_
                refine pw_aload_n 0 rfl dX10_writesOut_67 rfl ?_
                refine pw_gR 53 120 dX10_writesOut_68 cOk10 (by assumption) (by decide) kw_1118 (by decide) rfl ?_
                refine pw_iload_n 2 rfl dX10_writesOut_71 rfl ?_
                refine pw_aload_n 0 rfl dX10_writesOut_72 rfl ?_
                refine pw_gR 5 90 dX10_writesOut_73 cOk10 (by assumption) (by decide) kw_1070 (by decide) rfl ?_
                refine pw_iload dX10_writesOut_76 rfl ?_
                refine pw_iaload dX10_writesOut_78 (by assumption) (by omega) (by omega) (fun r78 => ?_)
                try simp (disch := omega) only [wr_s, wr_a, wr_k] at r78 ⊢
                rw [g90] at r78 ⊢
                refine pw_iconst dX10_writesOut_79 ?_
                refine pw_iadd dX10_writesOut_80 ?_
                refine pw_iastore dX10_writesOut_81 (by assumption) (by omega) (by omega) (by omega) ?_
                refine pw_iinc dX10_writesOut_82 rfl (by decide) ?_
                refine pw_aload_n 0 rfl dX10_writesOut_85 rfl ?_
                refine pw_gR 5 90 dX10_writesOut_86 cOk10 (by assumption) (by decide) kw_1070 (by decide) rfl ?_
                refine pw_iload dX10_writesOut_89 rfl ?_
                refine pw_iaload dX10_writesOut_91 (by assumption) (by omega) (by omega) (fun r91 => ?_)
                rw [wr_a _ _ _ (by omega), g90] at r91 ⊢
                refine pw_iconst dX10_writesOut_92 ?_
                refine pw_icmp_eq 142 (by decide) dX10_writesOut_93 (by omega) (by omega) (fun c93 => ?_) (fun c93 => ?_)
                · skip
                  refine pw_iinc dX10_writesOut_142 rfl (by decide) ?_
                  refine pw_goto 47 (by decide) dX10_writesOut_145 ?_
                  exact pw_locs _ rfl (ih2 (k + 1) (l2 ++ [0]) (w2 + 1) _ (by omega) (by omega) (by show _ = l ++ _ ++ (rowB mem c r k ++ _); rw [if_pos c93, hl2, List.append_assoc]) (by rw [List.length_append]; simp only [List.length_cons, List.length_nil]; omega) (by have := LW_w hL2 hw2 (mem 90 (16 * c + 4 * r + k) + 1); rw [show mem 90 (16 * c + 4 * r + k) + 1 = 0 by omega] at this ⊢; exact this) (hFr2.w _ _))
                · skip
                  refine pw_aload_n 0 rfl dX10_writesOut_96 rfl ?_
                  refine pw_gR 53 120 dX10_writesOut_97 cOk10 (by assumption) (by decide) kw_1118 (by decide) rfl ?_
                  refine pw_iload_n 2 rfl dX10_writesOut_100 rfl ?_
                  refine pw_aload_n 0 rfl dX10_writesOut_101 rfl ?_
                  refine pw_gR 6 91 dX10_writesOut_102 cOk10 (by assumption) (by decide) kw_1071 (by decide) rfl ?_
                  refine pw_iload dX10_writesOut_105 rfl ?_
                  refine pw_iaload dX10_writesOut_107 (by assumption) (by omega) (by omega) (fun r107 => ?_)
                  rw [wr_a _ _ _ (by omega), g91] at r107 ⊢
                  refine pw_iastore dX10_writesOut_108 (by assumption) (by omega) (by omega) (by omega) ?_
                  refine pw_aload_n 0 rfl dX10_writesOut_109 rfl ?_
                  refine pw_gR 53 120 dX10_writesOut_110 cOk10 (by assumption) (by decide) kw_1118 (by decide) rfl ?_
                  refine pw_iload_n 2 rfl dX10_writesOut_113 rfl ?_
                  refine pw_iconst dX10_writesOut_114 ?_
                  refine pw_iadd dX10_writesOut_115 ?_
                  refine pw_aload_n 0 rfl dX10_writesOut_116 rfl ?_
                  refine pw_gR 7 92 dX10_writesOut_117 cOk10 (by assumption) (by decide) kw_1072 (by decide) rfl ?_
                  refine pw_iload dX10_writesOut_120 rfl ?_
                  refine pw_iaload dX10_writesOut_122 (by assumption) (by omega) (by omega) (fun r122 => ?_)
                  rw [wr_a _ _ _ (by omega), wr_a _ _ _ (by omega), g92] at r122 ⊢
                  refine pw_iastore dX10_writesOut_123 (by assumption) (by omega) (by omega) (by omega) ?_
                  refine pw_aload_n 0 rfl dX10_writesOut_124 rfl ?_
                  refine pw_gR 53 120 dX10_writesOut_125 cOk10 (by assumption) (by decide) kw_1118 (by decide) rfl ?_
                  refine pw_iload_n 2 rfl dX10_writesOut_128 rfl ?_
                  refine pw_iconst dX10_writesOut_129 ?_
                  refine pw_iadd dX10_writesOut_130 ?_
                  refine pw_aload_n 0 rfl dX10_writesOut_131 rfl ?_
                  refine pw_gR 8 93 dX10_writesOut_132 cOk10 (by assumption) (by decide) kw_1073 (by decide) rfl ?_
                  refine pw_iload dX10_writesOut_135 rfl ?_
                  refine pw_iaload dX10_writesOut_137 (by assumption) (by omega) (by omega) (fun r137 => ?_)
                  rw [wr_a _ _ _ (by omega), wr_a _ _ _ (by omega), wr_a _ _ _ (by omega), g93] at r137 ⊢
                  refine pw_iastore dX10_writesOut_138 (by assumption) (by omega) (by omega) (by omega) ?_
                  refine pw_iinc dX10_writesOut_139 rfl (by decide) ?_
                  refine pw_iinc dX10_writesOut_142 rfl (by decide) ?_
                  refine pw_goto 47 (by decide) dX10_writesOut_145 ?_
                  have hA := LW_w (LW_w (LW_w (LW_w hL2 hw2 (mem 90 (16 * c + 4 * r + k) + 1)) (k := w2 + 1) (by rw [List.length_append]; simp only [List.length_cons, List.length_nil]; omega) (mem 91 (16 * c + 4 * r + k))) (k := w2 + 1 + 1) (by rw [List.length_append, List.length_append]; simp only [List.length_cons, List.length_nil]; omega) (mem 92 (16 * c + 4 * r + k))) (k := w2 + 1 + 2) (by rw [List.length_append, List.length_append, List.length_append]; simp only [List.length_cons, List.length_nil]; omega) (mem 93 (16 * c + 4 * r + k))
                  exact pw_locs _ rfl (ih2 (k + 1) (l2 ++ [mem 90 (16 * c + 4 * r + k) + 1] ++ [mem 91 (16 * c + 4 * r + k)] ++ [mem 92 (16 * c + 4 * r + k)] ++ [mem 93 (16 * c + 4 * r + k)]) (w2 + 1 + 3) _ (by omega) (by omega) (by show _ = l ++ _ ++ (rowB mem c r k ++ _); rw [if_neg c93, hl2]; simp only [List.append_assoc, List.cons_append, List.nil_append]) (by simp only [List.length_append, List.length_cons, List.length_nil]; omega) hA ((((hFr2.w _ _).w _ _).w _ _).w _ _))
          exact pw_locs _ rfl (lp47 5 0 _ (w + 1) m2 (by omega) (by omega) (by show _ = _ ++ []; rw [List.append_nil]) hwa hLa hFa)
        · skip
          refine pw_sipush dX10_writesOut_32 (by decide) ?_
          refine pw_goto 40 (by decide) dX10_writesOut_35 ?_
          refine pw_iastore dX10_writesOut_40 (by assumption) (by omega) (by omega) (by omega) ?_
          have eP : (if mem 89 (4 * c + r) = -1 then 255 else mem 89 (4 * c + r)) = 255 := if_pos (by omega)
          obtain ⟨m2, em2⟩ : ∃ y, y = wr m1 120 w 255 := ⟨_, rfl⟩
          have hLa : LW m2 120 (l ++ [if mem 89 (4 * c + r) = -1 then 255 else mem 89 (4 * c + r)]) := by rw [eP, em2]; exact LW_w hL hw _
          rw [← em2]
          have hFa : FrW 120 mem m2 := by rw [em2]; exact hFr.w _ _
          have hwa : w + 1 = ((l ++ [if mem 89 (4 * c + r) = -1 then 255 else mem 89 (4 * c + r)]).length : Int) := by rw [List.length_append]; simp only [List.length_cons, List.length_nil]; omega
          refine pw_iinc dX10_writesOut_41 rfl (by decide) ?_
          refine pw_iconst dX10_writesOut_44 ?_
          refine pw_istore dX10_writesOut_45 (by decide) ?_
          have lp47 : ∀ (kz2 : Nat) (k : Nat) (l2 : List Int) (w2 : Int) (m1 : pM), (mem 89 (4 * c + r)).toNat - (k : Int) < (kz2 : Int) → (k ≤ (mem 89 (4 * c + r)).toNat) → (l2 = l ++ [if mem 89 (4 * c + r) = -1 then 255 else mem 89 (4 * c + r)] ++ rowB mem c r k) → (w2 = l2.length) → (LW m1 120 l2) → (FrW 120 mem m1) → PW mi_X10_writesOut d n n (fun r ok' mem' => r = some (vi ((wA mem c).length : Int)) ∧ ok = ok' ∧ LW mem' 120 (wA mem c) ∧ FrW 120 mem mem') 47 [(0, vr 88), (1, vi c), (2, vi w2), (3, vi (r : Int)), (4, vi (mem 89 (4 * c + r))), (5, vi (k : Int))] [] n ok m1 := by
            intro kz2
            induction kz2 with
            | zero =>
              intro k l2 w2 m1 hk2 hk2 hl2 hw2 hL2 hFr2
              exact absurd hk2 (by omega)
            | succ kz2 ih2 =>
              intro k l2 w2 m1 hk2 hk2 hl2 hw2 hL2 hFr2
              have g89 : m1 89 = mem 89 := hFr2 89 (by omega)
              have g90 : m1 90 = mem 90 := hFr2 90 (by omega)
              have g91 : m1 91 = mem 91 := hFr2 91 (by omega)
              have g92 : m1 92 = mem 92 := hFr2 92 (by omega)
              have g93 : m1 93 = mem 93 := hFr2 93 (by omega)
              have hlen2 : l2.length ≤ 17 * r + 1 + 4 * k := by
                have := rowB_len mem c r k
                rw [hl2, List.length_append, List.length_append]; simp only [List.length_cons, List.length_nil]; omega
              refine pw_iload dX10_writesOut_47 rfl ?_
              refine pw_iload dX10_writesOut_49 rfl ?_
              refine pw_icmp_ge 148 (by decide) dX10_writesOut_51 (by omega) (by omega) (fun c51 => ?_) (fun c51 => ?_)
              · skip
                refine pw_iinc dX10_writesOut_148 rfl (by decide) ?_
                refine pw_goto 4 (by decide) dX10_writesOut_151 ?_
                exact pw_locs _ rfl (ih (r + 1) l2 w2 _ (by omega) (by omega) (by show _ = rwsB mem c r ++ _ ++ _; rw [hl2, hl, show k = (mem 89 (4 * c + r)).toNat by omega]) hw2 hL2 hFr2)
              · skip
                have hss : 0 ≤ 4 * (r : Int) + k ∧ 4 * (r : Int) + k ≤ 15 := by omega
                have hsq := h2 (4 * (r : Int) + k) hss.1 hss.2
                rw [← Int.add_assoc] at hsq
                refine pw_bipush dX10_writesOut_54 (by decide) ?_
                refine pw_iload_n 1 rfl dX10_writesOut_56 rfl ?_
                refine pw_imul dX10_writesOut_57 ?_
                refine pw_iconst dX10_writesOut_58 ?_
                refine pw_iload_n 3 rfl dX10_writesOut_59 rfl ?_
                refine pw_imul dX10_writesOut_60 ?_
                refine pw_iadd dX10_writesOut_61 ?_
                refine pw_iload dX10_writesOut_62 rfl ?_
                refine pw_iadd dX10_writesOut_64 ?_
                refine pw_istore dX10_writesOut_65 (by decide) ?_
                refine pw_aload_n 0 rfl dX10_writesOut_67 rfl ?_
                refine pw_gR 53 120 dX10_writesOut_68 cOk10 (by assumption) (by decide) kw_1118 (by decide) rfl ?_
                refine pw_iload_n 2 rfl dX10_writesOut_71 rfl ?_
                refine pw_aload_n 0 rfl dX10_writesOut_72 rfl ?_
                refine pw_gR 5 90 dX10_writesOut_73 cOk10 (by assumption) (by decide) kw_1070 (by decide) rfl ?_
                refine pw_iload dX10_writesOut_76 rfl ?_
                refine pw_iaload dX10_writesOut_78 (by assumption) (by omega) (by omega) (fun r78 => ?_)
                try simp (disch := omega) only [wr_s, wr_a, wr_k] at r78 ⊢
                rw [g90] at r78 ⊢
                refine pw_iconst dX10_writesOut_79 ?_
                refine pw_iadd dX10_writesOut_80 ?_
                refine pw_iastore dX10_writesOut_81 (by assumption) (by omega) (by omega) (by omega) ?_
                refine pw_iinc dX10_writesOut_82 rfl (by decide) ?_
                refine pw_aload_n 0 rfl dX10_writesOut_85 rfl ?_
                refine pw_gR 5 90 dX10_writesOut_86 cOk10 (by assumption) (by decide) kw_1070 (by decide) rfl ?_
                refine pw_iload dX10_writesOut_89 rfl ?_
                refine pw_iaload dX10_writesOut_91 (by assumption) (by omega) (by omega) (fun r91 => ?_)
                rw [wr_a _ _ _ (by omega), g90] at r91 ⊢
                refine pw_iconst dX10_writesOut_92 ?_
                refine pw_icmp_eq 142 (by decide) dX10_writesOut_93 (by omega) (by omega) (fun c93 => ?_) (fun c93 => ?_)
                · skip
                  refine pw_iinc dX10_writesOut_142 rfl (by decide) ?_
                  refine pw_goto 47 (by decide) dX10_writesOut_145 ?_
                  exact pw_locs _ rfl (ih2 (k + 1) (l2 ++ [0]) (w2 + 1) _ (by omega) (by omega) (by show _ = l ++ _ ++ (rowB mem c r k ++ _); rw [if_pos c93, hl2, List.append_assoc]) (by rw [List.length_append]; simp only [List.length_cons, List.length_nil]; omega) (by have := LW_w hL2 hw2 (mem 90 (16 * c + 4 * r + k) + 1); rw [show mem 90 (16 * c + 4 * r + k) + 1 = 0 by omega] at this ⊢; exact this) (hFr2.w _ _))
                · skip
                  refine pw_aload_n 0 rfl dX10_writesOut_96 rfl ?_
                  refine pw_gR 53 120 dX10_writesOut_97 cOk10 (by assumption) (by decide) kw_1118 (by decide) rfl ?_
                  refine pw_iload_n 2 rfl dX10_writesOut_100 rfl ?_
                  refine pw_aload_n 0 rfl dX10_writesOut_101 rfl ?_
                  refine pw_gR 6 91 dX10_writesOut_102 cOk10 (by assumption) (by decide) kw_1071 (by decide) rfl ?_
                  refine pw_iload dX10_writesOut_105 rfl ?_
                  refine pw_iaload dX10_writesOut_107 (by assumption) (by omega) (by omega) (fun r107 => ?_)
                  rw [wr_a _ _ _ (by omega), g91] at r107 ⊢
                  refine pw_iastore dX10_writesOut_108 (by assumption) (by omega) (by omega) (by omega) ?_
                  refine pw_aload_n 0 rfl dX10_writesOut_109 rfl ?_
                  refine pw_gR 53 120 dX10_writesOut_110 cOk10 (by assumption) (by decide) kw_1118 (by decide) rfl ?_
                  refine pw_iload_n 2 rfl dX10_writesOut_113 rfl ?_
                  refine pw_iconst dX10_writesOut_114 ?_
                  refine pw_iadd dX10_writesOut_115 ?_
                  refine pw_aload_n 0 rfl dX10_writesOut_116 rfl ?_
                  refine pw_gR 7 92 dX10_writesOut_117 cOk10 (by assumption) (by decide) kw_1072 (by decide) rfl ?_
                  refine pw_iload dX10_writesOut_120 rfl ?_
                  refine pw_iaload dX10_writesOut_122 (by assumption) (by omega) (by omega) (fun r122 => ?_)
                  rw [wr_a _ _ _ (by omega), wr_a _ _ _ (by omega), g92] at r122 ⊢
                  refine pw_iastore dX10_writesOut_123 (by assumption) (by omega) (by omega) (by omega) ?_
                  refine pw_aload_n 0 rfl dX10_writesOut_124 rfl ?_
                  refine pw_gR 53 120 dX10_writesOut_125 cOk10 (by assumption) (by decide) kw_1118 (by decide) rfl ?_
                  refine pw_iload_n 2 rfl dX10_writesOut_128 rfl ?_
                  refine pw_iconst dX10_writesOut_129 ?_
                  refine pw_iadd dX10_writesOut_130 ?_
                  refine pw_aload_n 0 rfl dX10_writesOut_131 rfl ?_
                  refine pw_gR 8 93 dX10_writesOut_132 cOk10 (by assumption) (by decide) kw_1073 (by decide) rfl ?_
                  refine pw_iload dX10_writesOut_135 rfl ?_
                  refine pw_iaload dX10_writesOut_137 (by assumption) (by omega) (by omega) (fun r137 => ?_)
                  rw [wr_a _ _ _ (by omega), wr_a _ _ _ (by omega), wr_a _ _ _ (by omega), g93] at r137 ⊢
                  refine pw_iastore dX10_writesOut_138 (by assumption) (by omega) (by omega) (by omega) ?_
                  refine pw_iinc dX10_writesOut_139 rfl (by decide) ?_
                  refine pw_iinc dX10_writesOut_142 rfl (by decide) ?_
                  refine pw_goto 47 (by decide) dX10_writesOut_145 ?_
                  have hA := LW_w (LW_w (LW_w (LW_w hL2 hw2 (mem 90 (16 * c + 4 * r + k) + 1)) (k := w2 + 1) (by rw [List.length_append]; simp only [List.length_cons, List.length_nil]; omega) (mem 91 (16 * c + 4 * r + k))) (k := w2 + 1 + 1) (by rw [List.length_append, List.length_append]; simp only [List.length_cons, List.length_nil]; omega) (mem 92 (16 * c + 4 * r + k))) (k := w2 + 1 + 2) (by rw [List.length_append, List.length_append, List.length_append]; simp only [List.length_cons, List.length_nil]; omega) (mem 93 (16 * c + 4 * r + k))
                  exact pw_locs _ rfl (ih2 (k + 1) (l2 ++ [mem 90 (16 * c + 4 * r + k) + 1] ++ [mem 91 (16 * c + 4 * r + k)] ++ [mem 92 (16 * c + 4 * r + k)] ++ [mem 93 (16 * c + 4 * r + k)]) (w2 + 1 + 3) _ (by omega) (by omega) (by show _ = l ++ _ ++ (rowB mem c r k ++ _); rw [if_neg c93, hl2]; simp only [List.append_assoc, List.cons_append, List.nil_append]) (by simp only [List.length_append, List.length_cons, List.length_nil]; omega) hA ((((hFr2.w _ _).w _ _).w _ _).w _ _))
          exact pw_locs _ rfl (lp47 5 0 _ (w + 1) m2 (by omega) (by omega) (by show _ = _ ++ []; rw [List.append_nil]) hwa hLa hFa)
  exact pw_locs _ rfl (lp4 5 0 [] 0 mem (by omega) (by omega) rfl rfl (LW_0 _ _) (fun _ _ => rfl))
