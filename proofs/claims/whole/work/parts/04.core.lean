/-! ===== THE PURE MACHINE: ints and longs are Int, references are pure addresses (0: null), memory is a function of address and place ===== -/
abbrev pV : Type := Int ⊕ Int ⊕ Nat
abbrev vi (x : Int) : pV := Sum.inl x
abbrev vl (x : Int) : pV := Sum.inr (Sum.inl x)
abbrev vr (a : Nat) : pV := Sum.inr (Sum.inr a)
abbrev pM : Type := Nat → Int → Int
abbrev pO : Type := Nat → Nat → Bool
def tr (ad : Nat → Nat) : pV → Value := fun v => match v with
  | .inl x => .int (Int32.ofInt x)
  | .inr (.inl x) => .long (Int64.ofInt x)
  | .inr (.inr a) => if a = 0 then .null else .ref (ad a)
def wr (mem : pM) (a : Nat) (k x : Int) : pM := fun b j => if b = a ∧ j = k then x else mem b j
def zr (mem : pM) (a : Nat) : pM := fun b j => if b = a then 0 else mem b j
def okS (ok : pO) (a k : Nat) : pO := fun b j => if b = a ∧ j = k then true else ok b j
def okZ (ok : pO) (a : Nat) : pO := fun b j => if b = a then false else ok b j
def nz (x : Int) : Int := (Int32.ofInt x).toInt
theorem wr_s (mem : pM) (a : Nat) (k x : Int) : wr mem a k x a k = x := by simp [wr]
theorem wr_a (mem : pM) {a b : Nat} (k x : Int) (h : b ≠ a) : wr mem a k x b = mem b := by funext j; simp [wr, h]
theorem wr_k (mem : pM) (a b : Nat) {k j : Int} (x : Int) (h : j ≠ k) : wr mem a k x b j = mem b j := by simp [wr, h]
theorem o_in {x : Int} (h1 : -2147483648 ≤ x) (h2 : x ≤ 2147483647) : (Int32.ofInt x).toInt = x := Int32.toInt_ofInt_of_le (by omega) (by omega)
theorem nz_in {x : Int} (h : -2147483648 ≤ x ∧ x ≤ 2147483647) : nz x = x := o_in h.1 h.2
theorem nz_ran (x : Int) : -2147483648 ≤ nz x ∧ nz x ≤ 2147483647 := by
  have h1 := Int32.le_toInt (Int32.ofInt x)
  have h2 := Int32.toInt_lt (Int32.ofInt x)
  unfold nz
  omega
theorem nz_of (x : Int) : Int32.ofInt (nz x) = Int32.ofInt x := Int32.ofInt_toInt _
theorem o_cl {x : Int} (h1 : 0 ≤ x) (h2 : x ≤ 2147483647) : (Int32.ofInt x).toNatClampNeg = x.toNat := Int32.toNatClampNeg_ofInt_of_le (by omega) (by omega)
theorem o_lt {x y : Int} (hx : -2147483648 ≤ x ∧ x ≤ 2147483647) (hy : -2147483648 ≤ y ∧ y ≤ 2147483647) : Int32.ofInt x < Int32.ofInt y ↔ x < y := by
  rw [Int32.lt_iff_toInt_lt, o_in hx.1 hx.2, o_in hy.1 hy.2]
theorem o_le {x y : Int} (hx : -2147483648 ≤ x ∧ x ≤ 2147483647) (hy : -2147483648 ≤ y ∧ y ≤ 2147483647) : Int32.ofInt x ≤ Int32.ofInt y ↔ x ≤ y := by
  rw [Int32.le_iff_toInt_le, o_in hx.1 hx.2, o_in hy.1 hy.2]
theorem o_eq {x y : Int} (hx : -2147483648 ≤ x ∧ x ≤ 2147483647) (hy : -2147483648 ≤ y ∧ y ≤ 2147483647) : Int32.ofInt x = Int32.ofInt y ↔ x = y := by
  rw [← Int32.toInt_inj, o_in hx.1 hx.2, o_in hy.1 hy.2]
theorem o_vin {x : Int} {n : Nat} (h1 : 0 ≤ x) (h2 : x < n) (hn : n < 2147483648) : vp_in (Int32.ofInt x) n := by
  rw [vp_in_iff, o_in (by omega) (by omega)]
  exact ⟨h1, h2⟩
/-! ===== the context of a run: class numbers, array classes, where new cells begin, the two static arrays ===== -/
abbrev pE : Type := va_G × (Nat × Nat × Nat) × (Nat × Nat × Nat)
abbrev eD (E : pE) : va_G := E.1
abbrev eI (E : pE) : Nat := E.2.1.1
abbrev eZ (E : pE) : Nat := E.2.1.2.1
abbrev eC (E : pE) : Nat := E.2.1.2.2
abbrev eB (E : pE) : Nat := E.2.2.1
abbrev e1 (E : pE) : Nat := E.2.2.2.1
abbrev e2 (E : pE) : Nat := E.2.2.2.2
def pA (E : pE) : Nat → Prop := fun q => eB E ≤ q
def pTy (E : pE) : List (ClassId × FieldType) := [(eI E, .int), (eZ E, .boolean), (eC E, .object "PuzzleChests$Chest")]
def reF (ad : Nat → Nat) (ok : pO) (mem : pM) (ci a k : Nat) : Value :=
  if fK ci k = 2 then (if ok a k = true then tr ad (vr (tg ci k a)) else .null)
  else if fK ci k = 3 then tr ad (vr (mem a k).toNat) else .int (Int32.ofInt (mem a k))
def reE (E : pE) (ad : Nat → Nat) (ok : pO) (mem : pM) (a : Nat) : va_E :=
  if ck a = 1 then .inl (eI E, ln a, .inl (fun j => Int32.ofInt (mem a j)))
  else if ck a = 2 then .inl (eZ E, ln a, .inl (fun j => Int32.ofInt (mem a j)))
  else if ck a = 3 then .inl (eC E, ln a, .inr (.inr (.inr (.inr (fun j => if ok a j = true then some (ad (cTg j)) else none)))))
  else .inr (ck a - 10, (List.range (ln a)).map (fun k => reF ad ok mem (ck a - 10) a k))
def wsL (E : pE) (ad : Nat → Nat) (n : Nat) (ok : pO) (mem : pM) : va_W := (List.range n).map (fun i => (ad (i + 1), reE E ad ok mem (i + 1)))
/-- what is always so of the pure state -/
def Nrm (n : Nat) (ok : pO) (mem : pM) : Prop :=
  (∀ a k, -2147483648 ≤ mem a k ∧ mem a k ≤ 2147483647) ∧
  (∀ a k, 1 ≤ a → a ≤ n → 10 ≤ ck a → fK (ck a - 10) k = 2 → ok a k = true → tg (ck a - 10) k a ≤ n) ∧
  (∀ a k, 1 ≤ a → a ≤ n → ck a = 3 → ok a k = true → cTg k ≤ n) ∧
  (∀ a k, 1 ≤ a → a ≤ n → 10 ≤ ck a → fK (ck a - 10) k = 3 → (mem a k).toNat ≤ n) ∧ n ≤ 133
def Wd (E : pE) (ad : Nat → Nat) (n : Nat) (ok : pO) (mem : pM) (U : State) (H : Heap) : Prop :=
  va_P (eD E) vwCl (wsL E ad n ok mem) H ∧ va_K (eD E) vwCl (pTy E) U ∧ va_D (pA E) (wsL E ad n ok mem) ∧ Nrm n ok mem ∧ ad 1001 = e1 E ∧ ad 1002 = e2 E
def isNst : Cond → Bool
  | .fieldLinkNest .. => true
  | .methodLinkNest .. => true
  | _ => false
def NwS (U : State) : Prop := (∀ w ∈ lw_tbl, isNst w = true → va_Nw w U) ∧ va_AO "PuzzleChests$Chest" U
def StS (E : pE) (U : State) (H : Heap) : Prop :=
  va_Z "PuzzleChests" "TELLING" "[I" (.ref (e1 E)) (pA E) U H ∧ va_T .int (e1 E) 6 (fun j => .int (Int32.ofInt (sTel j))) (pA E) U H ∧
  va_Z "PuzzleChests$Draws" "SEATS_DRAWN" "[I" (.ref (e2 E)) (pA E) U H ∧ va_T .int (e2 E) 4 (fun j => .int (Int32.ofInt (sDrw j))) (pA E) U H ∧ NwS U
theorem wsL_len (E : pE) (ad : Nat → Nat) (n : Nat) (ok : pO) (mem : pM) : (wsL E ad n ok mem).length = n := by simp [wsL]
theorem wsL_get (E : pE) (ad : Nat → Nat) {n : Nat} (ok : pO) (mem : pM) {a : Nat} (h1 : 1 ≤ a) (h2 : a ≤ n) : (wsL E ad n ok mem)[a - 1]? = some (ad a, reE E ad ok mem a) := by
  unfold wsL
  rw [List.getElem?_map, List.getElem?_range (by omega)]
  simp only [Option.map_some, Nat.sub_add_cancel h1]
theorem wsL_set (E : pE) (ad : Nat → Nat) {n : Nat} (ok ok' : pO) (mem mem' : pM) {a : Nat} (h1 : 1 ≤ a) (h2 : a ≤ n) (h : ∀ b, b ≠ a → 1 ≤ b → b ≤ n → reE E ad ok' mem' b = reE E ad ok mem b) :
    (wsL E ad n ok mem).set (a - 1) (ad a, reE E ad ok' mem' a) = wsL E ad n ok' mem' := by
  apply List.ext_getElem?
  intro i
  by_cases hi : i < n
  · have e1 := wsL_get E ad ok mem (a := i + 1) (n := n) (by omega) (by omega)
    have e2 := wsL_get E ad ok' mem' (a := i + 1) (n := n) (by omega) (by omega)
    simp only [Nat.add_sub_cancel] at e1 e2
    by_cases hia : i = a - 1
    · subst hia
      rw [List.getElem?_set_self (by rw [wsL_len]; exact hi), e2, Nat.sub_add_cancel h1]
    · rw [List.getElem?_set_ne (Ne.symm hia), e1, e2, h (i + 1) (by omega) (by omega) (by omega)]
  · rw [List.getElem?_eq_none (by rw [List.length_set, wsL_len]; omega), List.getElem?_eq_none (by rw [wsL_len]; omega)]
theorem wsL_push (E : pE) (ad ad' : Nat → Nat) {n : Nat} (ok ok' : pO) (mem mem' : pM) (h : ∀ b, 1 ≤ b → b ≤ n → ad' b = ad b ∧ reE E ad' ok' mem' b = reE E ad ok mem b) :
    wsL E ad n ok mem ++ [(ad' (n + 1), reE E ad' ok' mem' (n + 1))] = wsL E ad' (n + 1) ok' mem' := by
  unfold wsL
  rw [List.range_succ, List.map_append]
  congr 1
  apply List.map_congr_left
  intro i hi
  have hi := List.mem_range.mp hi
  rw [(h (i + 1) (by omega) (by omega)).1, (h (i + 1) (by omega) (by omega)).2]
/-! what a value is where addresses changed beyond it -/
def nrf (n1 n2 : Nat) (v : pV) : Prop := match v with
  | .inr (.inr a) => a ≤ n1 ∨ n2 < a
  | _ => True
theorem tr_same {ad ad' : Nat → Nat} {n1 n2 : Nat} (h : ∀ a, (a ≤ n1 ∨ n2 < a) → ad' a = ad a) {v : pV} (hv : nrf n1 n2 v) : tr ad' v = tr ad v := by
  match v, hv with
  | .inl _, _ => rfl
  | .inr (.inl _), _ => rfl
  | .inr (.inr a), hv =>
    show (if a = 0 then Value.null else .ref (ad' a)) = if a = 0 then Value.null else .ref (ad a)
    rw [h a hv]
theorem tr_map {ad ad' : Nat → Nat} {n1 n2 : Nat} (h : ∀ a, (a ≤ n1 ∨ n2 < a) → ad' a = ad a) {st : List pV} (hv : ∀ v ∈ st, nrf n1 n2 v) : st.map (tr ad') = st.map (tr ad) := List.map_congr_left fun v hm => tr_same h (hv v hm)
def trL (ad : Nat → Nat) (ls : List (Nat × pV)) : List (Nat × Value) := ls.map (fun q => (q.1, tr ad q.2))
theorem trL_map {ad ad' : Nat → Nat} {n1 n2 : Nat} (h : ∀ a, (a ≤ n1 ∨ n2 < a) → ad' a = ad a) {ls : List (Nat × pV)} (hv : ∀ q ∈ ls, nrf n1 n2 q.2) : trL ad' ls = trL ad ls := List.map_congr_left fun q hm => by rw [tr_same h (hv q hm)]
theorem reF_same {ad ad' : Nat → Nat} {n1 n2 : Nat} (h : ∀ a, (a ≤ n1 ∨ n2 < a) → ad' a = ad a) {ok : pO} {mem : pM} {ci a k : Nat} (h1 : fK ci k = 2 → ok a k = true → tg ci k a ≤ n1) (h2 : fK ci k = 3 → (mem a k).toNat ≤ n1) : reF ad' ok mem ci a k = reF ad ok mem ci a k := by
  unfold reF
  by_cases e2 : fK ci k = 2
  · rw [if_pos e2, if_pos e2]
    by_cases e3 : ok a k = true
    · rw [if_pos e3, if_pos e3]
      exact tr_same h (Or.inl (h1 e2 e3))
    · rw [if_neg e3, if_neg e3]
  · rw [if_neg e2, if_neg e2]
    by_cases e3 : fK ci k = 3
    · rw [if_pos e3, if_pos e3]
      exact tr_same h (Or.inl (h2 e3))
    · rw [if_neg e3, if_neg e3]
theorem ck_cases (a : Nat) : ck a = 0 ∨ ck a = 1 ∨ ck a = 2 ∨ ck a = 3 ∨ 10 ≤ ck a := by
  by_cases h : a < 134
  · have : ∀ b, b < 134 → ck b = 0 ∨ ck b = 1 ∨ ck b = 2 ∨ ck b = 3 ∨ 10 ≤ ck b := by decide +kernel
    exact this a h
  · left
    unfold ck
    rw [List.getD_eq_getElem?_getD, List.getElem?_eq_none (by simp [layL]; omega)]
    rfl
theorem ck_pos {a : Nat} (h1 : 1 ≤ a) (h2 : a ≤ 133) : ck a = 1 ∨ ck a = 2 ∨ ck a = 3 ∨ 10 ≤ ck a := by
  have : ∀ b, b < 134 → 1 ≤ b → ck b = 1 ∨ ck b = 2 ∨ ck b = 3 ∨ 10 ≤ ck b := by decide +kernel
  exact this a (by omega) h1
theorem reE_same {E : pE} {ad ad' : Nat → Nat} {n n2 : Nat} (h : ∀ a, (a ≤ n ∨ n2 < a) → ad' a = ad a) {ok : pO} {mem : pM} (hN : Nrm n ok mem) {a : Nat} (h1 : 1 ≤ a) (h2 : a ≤ n) : reE E ad' ok mem a = reE E ad ok mem a := by
  obtain ⟨-, hN1, hN2, hN3, hn⟩ := hN
  unfold reE
  rcases ck_pos h1 (by omega) with e | e | e | e
  · rw [if_pos e, if_pos e]
  · simp [e]
  · have : (fun j => if ok a j = true then some (ad' (cTg j)) else none) = (fun j => if ok a j = true then some (ad (cTg j)) else none) := by
      funext j
      by_cases ej : ok a j = true
      · rw [if_pos ej, if_pos ej, h _ (Or.inl (hN2 a j h1 h2 e ej))]
      · rw [if_neg ej, if_neg ej]
    simp [e, this]
  · have q1 : ¬ ck a = 1 := by omega
    have q2 : ¬ ck a = 2 := by omega
    have q3 : ¬ ck a = 3 := by omega
    simp only [q1, q2, q3, if_false]
    congr 2
    apply List.map_congr_left
    intro k _
    exact reF_same h (fun e2 e3 => hN1 a k h1 h2 e e2 e3) (fun e2 => hN3 a k h1 h2 e e2)
/-- only the memory of the cell itself counts -/
theorem reE_mem {E : pE} {ad : Nat → Nat} {ok ok' : pO} {mem mem' : pM} {a : Nat} (h : mem' a = mem a) (ho : ok' a = ok a) : reE E ad ok' mem' a = reE E ad ok mem a := by
  unfold reE reF
  rw [h, ho]
