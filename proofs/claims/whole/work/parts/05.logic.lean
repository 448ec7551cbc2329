/-! ===== THE PROGRAM LOGIC: PW, a frame of a method on its way; PM, a method's contract ===== -/
abbrev MI : Type := MethodName × ByteArray × Nat × Option FieldType × Nat × (Nat → Int)
abbrev mY (mi : MI) : MethodName := mi.1
abbrev mB (mi : MI) : ByteArray := mi.2.1
abbrev mL (mi : MI) : Nat := mi.2.2.1
abbrev mR (mi : MI) : Option FieldType := mi.2.2.2.1
abbrev mS (mi : MI) : Nat := mi.2.2.2.2.1
abbrev mX (mi : MI) : Nat → Int := mi.2.2.2.2.2
def lw_gd : List Cond := lw_tbl.filter goodWord
def wsM (mi : MI) : List Cond := Cond.code (mY mi) (mB mi) (mL mi) (mR mi) :: lw_gd
theorem gd_gd : GoodIn lw_gd lw_gd := fun w h => ⟨h, good_of_word (List.mem_filter.mp h).2⟩
theorem gd_of {w : Cond} (h : w ∈ lw_tbl) (hg : goodWord w = true) : w ∈ lw_gd := List.mem_filter.mpr ⟨h, hg⟩
theorem gd_M {mi : MI} (h : Cond.code (mY mi) (mB mi) (mL mi) (mR mi) ∈ lw_gd) : GoodIn lw_gd (wsM mi) := fun w hw => by
  rcases List.mem_cons.mp hw with e | e
  · rw [e]; exact gd_gd _ h
  · exact gd_gd w e
/-- a method's answer, and the instruction by which it is given -/
def pRet (mi : MI) (pc : Nat) (r : Option pV) : Prop := match r with
  | none => decode (mB mi) pc = .ok (.return_, 1) ∧ mR mi = none
  | some (.inl x) => decode (mB mi) pc = .ok (.ireturn, 1) ∧ (mR mi = some .int ∨ (mR mi = some .boolean ∧ (x = 0 ∨ x = 1)))
  | some (.inr (.inl _)) => decode (mB mi) pc = .ok (.lreturn, 1) ∧ mR mi = some .long
  | some (.inr (.inr _)) => decode (mB mi) pc = .ok (.areturn, 1) ∧ ∃ C, mR mi = some (.object C)
abbrev pQt : Type := Option pV → pO → pM → Prop
def pC (mi : MI) (d nf n0 : Nat) (Q : pQt) (p : Program) (l : Launch) (e : Env) (R : Room) (s : State) (m : MethodId) (args : Array Value) (below : List Frame) (meth : Method) (c : Code) (Z : State → Prop) (E : pE) (ad0 : Nat → Nat) : Prop :=
  p.tables.exec = Jvm.exec ∧ c.code = mB mi ∧ c.maxLocals = mL mi ∧ s.vm.findClass (mY mi).cls = some m.cls ∧ (∀ w ∈ lw_gd, w.before args s = true) ∧ meth.name = (mY mi).name ∧
  (d ≤ R.frames ∧ 39 * d ≤ R.locals ∧ nf - n0 ≤ R.cells ∧ sS nf - sS n0 ≤ R.slots) ∧ eB E ≤ s.heap.size ∧ StS E s s.heap ∧
  ((mY mi).cls = "PuzzleChestsLaw" → va_X (ad0 1003) (mS mi) (fun j => Int32.ofInt (mX mi j)) s s.heap ∧ ad0 1003 < s.heap.size ∧ ¬ pA E (ad0 1003) ∧ mS mi < 2147483648 ∧ nf < 1000) ∧
  (∀ (r : Option pV) (ok : pO) (mem : pM) (H : Heap) (locs : List Loc) (ad : Nat → Nat) (lsr : Array Slot) (pc : Nat), Q r ok mem → Wd E ad nf ok mem s H → va_S (pA E) s.heap H locs → (∀ a, (a ≤ n0 ∨ nf < a) → ad a = ad0 a) → pRet mi pc r →
    W p l e R s m args below meth c H locs (nf - n0) (sS nf - sS n0) Z (F0 m pc lsr (r.toList.map (tr ad))))
def PW (mi : MI) (d nf n0 : Nat) (Q : pQt) (pc : Nat) (ls : List (Nat × pV)) (st : List pV) (n : Nat) (ok : pO) (mem : pM) : Prop :=
  ∀ (p : Program) (l : Launch) (e : Env) (R : Room) (s : State) (m : MethodId) (args : Array Value) (below : List Frame) (meth : Method) (c : Code) (Z : State → Prop) (E : pE) (ad0 : Nat → Nat) (H : Heap) (locs : List Loc) (ad : Nat → Nat) (lsr : Array Slot),
    pC mi d nf n0 Q p l e R s m args below meth c Z E ad0 → Wd E ad n ok mem s H → va_S (pA E) s.heap H locs → lv_has lsr (mL mi) (trL ad ls) → n0 ≤ n → n ≤ nf → (∀ a, (a ≤ n0 ∨ nf < a) → ad a = ad0 a) →
    W p l e R s m args below meth c H locs (n - n0) (sS n - sS n0) Z (F0 m pc lsr (st.map (tr ad)))
def pQ (E : pE) (ad : Nat → Nat) (n nf : Nat) (Q : pQt) : Array Value → State → Outcome → State → Prop := fun _ st oc t =>
  ∃ (r : Option pV) (ok' : pO) (mem' : pM) (ad' : Nat → Nat), Q r ok' mem' ∧ oc = .returned (r.map (tr ad')) ∧ (∀ a, (a ≤ n ∨ nf < a) → ad' a = ad a) ∧ Wd E ad' nf ok' mem' t t.heap ∧ va_F (pA E) st t
def rmD (d n nf : Nat) : Room := { frames := d, cells := nf - n, slots := sS nf - sS n, locals := 39 * d }
def PM (mi : MI) (d : Nat) (as : List pV) (n : Nat) (ok : pO) (mem : pM) (nf : Nat) (Q : pQt) : Prop :=
  n ≤ nf ∧ ∀ (l : Launch) (E : pE) (ad : Nat → Nat), Met l (mY mi) (wsM mi) (rmD d n nf) (va_Pc (as.map (tr ad)) (fun U => eB E ≤ U.heap.size ∧ Wd E ad n ok mem U U.heap ∧ StS E U U.heap)) (pQ E ad n nf Q) (nf - n) (sS nf - sS n) (pA E)
/-! ===== rows of locals, stack and arithmetic ===== -/
def lget : List (Nat × pV) → Nat → Option pV
  | [], _ => none
  | q :: l, i => if q.1 = i then some q.2 else lget l i
def isl (v : pV) : Bool := match v with
  | .inr (.inl _) => true
  | _ => false
def lput (ls : List (Nat × pV)) (i : Nat) (v : pV) : List (Nat × pV) := (i, v) :: ls.filter (fun q => !(q.1 == i) && !(q.1 + 1 == i && isl q.2))
def lput2 (ls : List (Nat × pV)) (i : Nat) (v : pV) : List (Nat × pV) := (i, v) :: ls.filter (fun q => !(q.1 == i) && (!(q.1 == i + 1) && !(q.1 + 1 == i && isl q.2)))
theorem lget_mem {i : Nat} {v : pV} : ∀ {ls : List (Nat × pV)}, lget ls i = some v → (i, v) ∈ ls
  | [], h => by cases h
  | q :: l, h => by
    unfold lget at h
    by_cases e : q.1 = i
    · rw [if_pos e] at h
      cases h
      rw [← e]
      exact List.mem_cons_self
    · rw [if_neg e] at h
      exact List.mem_cons_of_mem _ (lget_mem h)
theorem lv_get {lsr : Array Slot} {nL : Nat} {ad : Nat → Nat} {ls : List (Nat × pV)} {i : Nat} {v : pV} (h : lv_has lsr nL (trL ad ls)) (hl : lget ls i = some v) : lsr[i]? = some (.val (tr ad v)) := h.2.2 (i, tr ad v) (List.mem_map.mpr ⟨(i, v), lget_mem hl, rfl⟩)
theorem tr_cat (ad : Nat → Nat) (v : pV) : ((tr ad v).category == 2) = isl v := by
  match v with
  | .inl _ => rfl
  | .inr (.inl _) => rfl
  | .inr (.inr a) =>
    show ((if a = 0 then Value.null else .ref (ad a)).category == 2) = false
    by_cases h : a = 0
    · rw [if_pos h]; rfl
    · rw [if_neg h]; rfl
theorem trL_put (ad : Nat → Nat) (ls : List (Nat × pV)) (i : Nat) (v : pV) : (i, tr ad v) :: (trL ad ls).filter (fun q => !(q.1 == i) && !(q.1 + 1 == i && q.2.category == 2)) = trL ad (lput ls i v) := by
  unfold lput trL
  rw [List.map_cons, List.filter_map]
  congr 2
  apply List.filter_congr
  intro q _
  simp only [Function.comp, tr_cat]
theorem trL_put2 (ad : Nat → Nat) (ls : List (Nat × pV)) (i : Nat) (v : pV) : (i, tr ad v) :: (trL ad ls).filter (fun q => !(q.1 == i) && (!(q.1 == i + 1) && !(q.1 + 1 == i && q.2.category == 2))) = trL ad (lput2 ls i v) := by
  unfold lput2 trL
  rw [List.map_cons, List.filter_map]
  congr 2
  apply List.filter_congr
  intro q _
  simp only [Function.comp, tr_cat]
section PR
variable {mi : MI} {d nf n0 : Nat} {Q : pQt} {pc : Nat} {ls : List (Nat × pV)} {st : List pV} {n : Nat} {ok : pO} {mem : pM}
theorem pw_locs (ls' : List (Nat × pV)) (h : ls'.map (fun q => lget ls q.1) = ls'.map (fun q => some q.2)) (k : PW mi d nf n0 Q pc ls' st n ok mem) : PW mi d nf n0 Q pc ls st n ok mem := by
  intro p l e R s m args below meth c Z E ad0 H locs ad lsr C hW hS hl h0 h1 hag
  refine k p l e R s m args below meth c Z E ad0 H locs ad lsr C hW hS ⟨hl.1, hl.2.1, fun q hq => ?_⟩ h0 h1 hag
  obtain ⟨q0, hq0, rfl⟩ := List.mem_map.mp hq
  have h2 : ∀ q ∈ ls', lget ls q.1 = some q.2 := List.map_inj_left.mp h
  exact lv_get hl (h2 q0 hq0)
theorem pw_iload {i : Nat} {x : Int} (hd : decode (mB mi) pc = .ok (.iload i, 2)) (hl : lget ls i = some (vi x)) (k : PW mi d nf n0 Q (pc + 2) ls (vi x :: st) n ok mem) : PW mi d nf n0 Q pc ls st n ok mem := by
  intro p l e R s m args below meth c Z E ad0 H locs ad lsr C hW hS hv h0 h1 hag
  exact lv_iload C.1 C.2.1 hd (lv_get hv hl) (k p l e R s m args below meth c Z E ad0 H locs ad lsr C hW hS hv h0 h1 hag)
theorem pw_iload_n {j : Fin 4} {x : Int} (i : Nat) (hi : (j : Nat) = i) (hd : decode (mB mi) pc = .ok (.iload_n j, 1)) (hl : lget ls i = some (vi x)) (k : PW mi d nf n0 Q (pc + 1) ls (vi x :: st) n ok mem) : PW mi d nf n0 Q pc ls st n ok mem := by
  intro p l e R s m args below meth c Z E ad0 H locs ad lsr C hW hS hv h0 h1 hag
  exact lv_iload_n C.1 C.2.1 hd hi (lv_get hv hl) (k p l e R s m args below meth c Z E ad0 H locs ad lsr C hW hS hv h0 h1 hag)
theorem pw_lload {i : Nat} {x : Int} (hd : decode (mB mi) pc = .ok (.lload i, 2)) (hl : lget ls i = some (vl x)) (k : PW mi d nf n0 Q (pc + 2) ls (vl x :: st) n ok mem) : PW mi d nf n0 Q pc ls st n ok mem := by
  intro p l e R s m args below meth c Z E ad0 H locs ad lsr C hW hS hv h0 h1 hag
  exact lv_lload C.1 C.2.1 hd (lv_get hv hl) (k p l e R s m args below meth c Z E ad0 H locs ad lsr C hW hS hv h0 h1 hag)
theorem pw_lload_n {j : Fin 4} {x : Int} (i : Nat) (hi : (j : Nat) = i) (hd : decode (mB mi) pc = .ok (.lload_n j, 1)) (hl : lget ls i = some (vl x)) (k : PW mi d nf n0 Q (pc + 1) ls (vl x :: st) n ok mem) : PW mi d nf n0 Q pc ls st n ok mem := by
  intro p l e R s m args below meth c Z E ad0 H locs ad lsr C hW hS hv h0 h1 hag
  exact lv_lload_n C.1 C.2.1 hd hi (lv_get hv hl) (k p l e R s m args below meth c Z E ad0 H locs ad lsr C hW hS hv h0 h1 hag)
theorem pw_aload {i a : Nat} (hd : decode (mB mi) pc = .ok (.aload i, 2)) (hl : lget ls i = some (vr a)) (k : PW mi d nf n0 Q (pc + 2) ls (vr a :: st) n ok mem) : PW mi d nf n0 Q pc ls st n ok mem := by
  intro p l e R s m args below meth c Z E ad0 H locs ad lsr C hW hS hv h0 h1 hag
  have h2 := k p l e R s m args below meth c Z E ad0 H locs ad lsr C hW hS hv h0 h1 hag
  have h3 := lv_get hv hl
  by_cases e0 : a = 0
  · subst e0
    exact lv_aloadN C.1 C.2.1 hd h3 h2
  · have e1 : tr ad (vr a) = .ref (ad a) := if_neg e0
    rw [e1] at h3
    rw [List.map_cons, e1] at h2
    exact lv_aload C.1 C.2.1 hd h3 h2
theorem pw_aload_n {j : Fin 4} {a : Nat} (i : Nat) (hi : (j : Nat) = i) (hd : decode (mB mi) pc = .ok (.aload_n j, 1)) (hl : lget ls i = some (vr a)) (k : PW mi d nf n0 Q (pc + 1) ls (vr a :: st) n ok mem) : PW mi d nf n0 Q pc ls st n ok mem := by
  intro p l e R s m args below meth c Z E ad0 H locs ad lsr C hW hS hv h0 h1 hag
  have h2 := k p l e R s m args below meth c Z E ad0 H locs ad lsr C hW hS hv h0 h1 hag
  have h3 := lv_get hv hl
  by_cases e0 : a = 0
  · subst e0
    exact lv_aload_nN C.1 C.2.1 hd hi h3 h2
  · have e1 : tr ad (vr a) = .ref (ad a) := if_neg e0
    rw [e1] at h3
    rw [List.map_cons, e1] at h2
    exact lv_aload_n C.1 C.2.1 hd hi h3 h2
theorem pw_istore {i : Nat} {x : Int} (hd : decode (mB mi) pc = .ok (.istore i, 2)) (hi : i < mL mi) (k : PW mi d nf n0 Q (pc + 2) (lput ls i (vi x)) st n ok mem) : PW mi d nf n0 Q pc ls (vi x :: st) n ok mem := by
  intro p l e R s m args below meth c Z E ad0 H locs ad lsr C hW hS hv h0 h1 hag
  exact lv_istore C.1 C.2.1 hd hv hi (trL_put ad ls i (vi x)) (fun ls' hv' => k p l e R s m args below meth c Z E ad0 H locs ad ls' C hW hS hv' h0 h1 hag)
theorem pw_istore_n {j : Fin 4} {x : Int} (i : Nat) (hj : (j : Nat) = i) (hd : decode (mB mi) pc = .ok (.istore_n j, 1)) (hi : i < mL mi) (k : PW mi d nf n0 Q (pc + 1) (lput ls i (vi x)) st n ok mem) : PW mi d nf n0 Q pc ls (vi x :: st) n ok mem := by
  intro p l e R s m args below meth c Z E ad0 H locs ad lsr C hW hS hv h0 h1 hag
  exact lv_istore_n C.1 C.2.1 hd hj hv hi (trL_put ad ls i (vi x)) (fun ls' hv' => k p l e R s m args below meth c Z E ad0 H locs ad ls' C hW hS hv' h0 h1 hag)
theorem pw_lstore_n {j : Fin 4} {x : Int} (i : Nat) (hj : (j : Nat) = i) (hd : decode (mB mi) pc = .ok (.lstore_n j, 1)) (hi : i + 1 < mL mi) (k : PW mi d nf n0 Q (pc + 1) (lput2 ls i (vl x)) st n ok mem) : PW mi d nf n0 Q pc ls (vl x :: st) n ok mem := by
  intro p l e R s m args below meth c Z E ad0 H locs ad lsr C hW hS hv h0 h1 hag
  exact lv_lstore_n C.1 C.2.1 hd hj hv hi (trL_put2 ad ls i (vl x)) (fun ls' hv' => k p l e R s m args below meth c Z E ad0 H locs ad ls' C hW hS hv' h0 h1 hag)
theorem pw_astore {i a : Nat} (hd : decode (mB mi) pc = .ok (.astore i, 2)) (hi : i < mL mi) (k : PW mi d nf n0 Q (pc + 2) (lput ls i (vr a)) st n ok mem) : PW mi d nf n0 Q pc ls (vr a :: st) n ok mem := by
  intro p l e R s m args below meth c Z E ad0 H locs ad lsr C hW hS hv h0 h1 hag
  have h2 := fun ls' hv' => k p l e R s m args below meth c Z E ad0 H locs ad ls' C hW hS hv' h0 h1 hag
  have h3 := trL_put ad ls i (vr a)
  by_cases e0 : a = 0
  · subst e0
    exact lv_astoreN C.1 C.2.1 hd hv hi h3 h2
  · have e1 : tr ad (vr a) = .ref (ad a) := if_neg e0
    rw [e1] at h3
    rw [List.map_cons, e1]
    exact lv_astore C.1 C.2.1 hd hv hi h3 h2
theorem pw_astore_n {j : Fin 4} {a : Nat} (i : Nat) (hj : (j : Nat) = i) (hd : decode (mB mi) pc = .ok (.astore_n j, 1)) (hi : i < mL mi) (k : PW mi d nf n0 Q (pc + 1) (lput ls i (vr a)) st n ok mem) : PW mi d nf n0 Q pc ls (vr a :: st) n ok mem := by
  intro p l e R s m args below meth c Z E ad0 H locs ad lsr C hW hS hv h0 h1 hag
  have h2 := fun ls' hv' => k p l e R s m args below meth c Z E ad0 H locs ad ls' C hW hS hv' h0 h1 hag
  have h3 := trL_put ad ls i (vr a)
  by_cases e0 : a = 0
  · subst e0
    exact lv_astore_nN C.1 C.2.1 hd hj hv hi h3 h2
  · have e1 : tr ad (vr a) = .ref (ad a) := if_neg e0
    rw [e1] at h3
    rw [List.map_cons, e1]
    exact lv_astore_n C.1 C.2.1 hd hj hv hi h3 h2
theorem pw_iinc {i : Nat} {x c0 : Int} (hd : decode (mB mi) pc = .ok (.iinc i c0, 3)) (hl : lget ls i = some (vi x)) (hi : i < mL mi) (k : PW mi d nf n0 Q (pc + 3) (lput ls i (vi (x + c0))) st n ok mem) : PW mi d nf n0 Q pc ls st n ok mem := by
  intro p l e R s m args below meth c Z E ad0 H locs ad lsr C hW hS hv h0 h1 hag
  have hm : (i, tr ad (vi x)) ∈ trL ad ls := List.mem_map.mpr ⟨(i, vi x), lget_mem hl, rfl⟩
  obtain ⟨kk, hk⟩ := List.getElem?_of_mem hm
  exact lv_iinc C.1 C.2.1 hd hv hk (Int32.ofInt_add x c0).symm hi (trL_put ad ls i (vi (x + c0))) (fun ls' hv' => k p l e R s m args below meth c Z E ad0 H locs ad ls' C hW hS hv' h0 h1 hag)
theorem pw_iconst {x : Int} (hd : decode (mB mi) pc = .ok (.iconst x, 1)) (k : PW mi d nf n0 Q (pc + 1) ls (vi x :: st) n ok mem) : PW mi d nf n0 Q pc ls st n ok mem := by
  intro p l e R s m args below meth c Z E ad0 H locs ad lsr C hW hS hv h0 h1 hag
  exact lv_iconst C.1 C.2.1 hd rfl (k p l e R s m args below meth c Z E ad0 H locs ad lsr C hW hS hv h0 h1 hag)
theorem pw_bipush {x : Int} (hd : decode (mB mi) pc = .ok (.bipush x, 2)) (hx : (Int8.ofInt x).toInt32 = Int32.ofInt x) (k : PW mi d nf n0 Q (pc + 2) ls (vi x :: st) n ok mem) : PW mi d nf n0 Q pc ls st n ok mem := by
  intro p l e R s m args below meth c Z E ad0 H locs ad lsr C hW hS hv h0 h1 hag
  exact lv_bipush C.1 C.2.1 hd hx (k p l e R s m args below meth c Z E ad0 H locs ad lsr C hW hS hv h0 h1 hag)
theorem pw_sipush {x : Int} (hd : decode (mB mi) pc = .ok (.sipush x, 3)) (hx : (Int16.ofInt x).toInt32 = Int32.ofInt x) (k : PW mi d nf n0 Q (pc + 3) ls (vi x :: st) n ok mem) : PW mi d nf n0 Q pc ls st n ok mem := by
  intro p l e R s m args below meth c Z E ad0 H locs ad lsr C hW hS hv h0 h1 hag
  exact lv_sipush C.1 C.2.1 hd hx (k p l e R s m args below meth c Z E ad0 H locs ad lsr C hW hS hv h0 h1 hag)
theorem pw_lconst {j : Fin 2} {x : Int} (hd : decode (mB mi) pc = .ok (.lconst j, 1)) (hx : Int64.ofNat (j : Nat) = Int64.ofInt x) (k : PW mi d nf n0 Q (pc + 1) ls (vl x :: st) n ok mem) : PW mi d nf n0 Q pc ls st n ok mem := by
  intro p l e R s m args below meth c Z E ad0 H locs ad lsr C hW hS hv h0 h1 hag
  exact lv_lconst C.1 C.2.1 hd hx (k p l e R s m args below meth c Z E ad0 H locs ad lsr C hW hS hv h0 h1 hag)
theorem pw_null (hd : decode (mB mi) pc = .ok (.aconst_null, 1)) (k : PW mi d nf n0 Q (pc + 1) ls (vr 0 :: st) n ok mem) : PW mi d nf n0 Q pc ls st n ok mem := by
  intro p l e R s m args below meth c Z E ad0 H locs ad lsr C hW hS hv h0 h1 hag
  exact lv_null C.1 C.2.1 hd (k p l e R s m args below meth c Z E ad0 H locs ad lsr C hW hS hv h0 h1 hag)
theorem pw_ldc {idx : Nat} {x : Int} {z : Int32} (hw : Cond.constant (mY mi).cls idx z ∈ lw_gd) (hz : z = Int32.ofInt x) (hd : decode (mB mi) pc = .ok (.ldc idx, 2)) (k : PW mi d nf n0 Q (pc + 2) ls (vi x :: st) n ok mem) : PW mi d nf n0 Q pc ls st n ok mem := by
  intro p l e R s m args below meth c Z E ad0 H locs ad lsr C hW hS hv h0 h1 hag
  subst hz
  exact lv_ldc C.1 C.2.1 C.2.2.2.1 (C.2.2.2.2.1 _ hw) hd (k p l e R s m args below meth c Z E ad0 H locs ad lsr C hW hS hv h0 h1 hag)
theorem pw_ldc_w {idx : Nat} {x : Int} {z : Int32} (hw : Cond.constant (mY mi).cls idx z ∈ lw_gd) (hz : z = Int32.ofInt x) (hd : decode (mB mi) pc = .ok (.ldc_w idx, 3)) (k : PW mi d nf n0 Q (pc + 3) ls (vi x :: st) n ok mem) : PW mi d nf n0 Q pc ls st n ok mem := by
  intro p l e R s m args below meth c Z E ad0 H locs ad lsr C hW hS hv h0 h1 hag
  subst hz
  exact lv_ldcw C.1 C.2.1 C.2.2.2.1 (C.2.2.2.2.1 _ hw) hd (k p l e R s m args below meth c Z E ad0 H locs ad lsr C hW hS hv h0 h1 hag)
theorem pw_ldc2 {idx : Nat} {x : Int} {z : Int64} (hw : Cond.constantLong (mY mi).cls idx z ∈ lw_gd) (hz : z = Int64.ofInt x) (hd : decode (mB mi) pc = .ok (.ldc2_w idx, 3)) (k : PW mi d nf n0 Q (pc + 3) ls (vl x :: st) n ok mem) : PW mi d nf n0 Q pc ls st n ok mem := by
  intro p l e R s m args below meth c Z E ad0 H locs ad lsr C hW hS hv h0 h1 hag
  subst hz
  exact lv_ldc2 C.1 C.2.1 C.2.2.2.1 (C.2.2.2.2.1 _ hw) hd (k p l e R s m args below meth c Z E ad0 H locs ad lsr C hW hS hv h0 h1 hag)
theorem pw_iadd {x y : Int} (hd : decode (mB mi) pc = .ok (.iadd, 1)) (k : PW mi d nf n0 Q (pc + 1) ls (vi (x + y) :: st) n ok mem) : PW mi d nf n0 Q pc ls (vi y :: vi x :: st) n ok mem := by
  intro p l e R s m args below meth c Z E ad0 H locs ad lsr C hW hS hv h0 h1 hag
  refine lv_iadd C.1 C.2.1 hd ?_
  rw [← Int32.ofInt_add]
  exact k p l e R s m args below meth c Z E ad0 H locs ad lsr C hW hS hv h0 h1 hag
theorem pw_isub {x y : Int} (hd : decode (mB mi) pc = .ok (.isub, 1)) (k : PW mi d nf n0 Q (pc + 1) ls (vi (x - y) :: st) n ok mem) : PW mi d nf n0 Q pc ls (vi y :: vi x :: st) n ok mem := by
  intro p l e R s m args below meth c Z E ad0 H locs ad lsr C hW hS hv h0 h1 hag
  refine lv_isub C.1 C.2.1 hd ?_
  rw [← Int32.ofInt_sub]
  exact k p l e R s m args below meth c Z E ad0 H locs ad lsr C hW hS hv h0 h1 hag
theorem pw_imul {x y : Int} (hd : decode (mB mi) pc = .ok (.imul, 1)) (k : PW mi d nf n0 Q (pc + 1) ls (vi (x * y) :: st) n ok mem) : PW mi d nf n0 Q pc ls (vi y :: vi x :: st) n ok mem := by
  intro p l e R s m args below meth c Z E ad0 H locs ad lsr C hW hS hv h0 h1 hag
  refine lv_imul C.1 C.2.1 hd ?_
  rw [← Int32.ofInt_mul]
  exact k p l e R s m args below meth c Z E ad0 H locs ad lsr C hW hS hv h0 h1 hag
theorem pw_ineg {x : Int} (hd : decode (mB mi) pc = .ok (.ineg, 1)) (k : PW mi d nf n0 Q (pc + 1) ls (vi (-x) :: st) n ok mem) : PW mi d nf n0 Q pc ls (vi x :: st) n ok mem := by
  intro p l e R s m args below meth c Z E ad0 H locs ad lsr C hW hS hv h0 h1 hag
  refine lv_ineg C.1 C.2.1 hd ?_
  rw [← Int32.ofInt_neg]
  exact k p l e R s m args below meth c Z E ad0 H locs ad lsr C hW hS hv h0 h1 hag
theorem o_nI {x : Int} (h : 0 ≤ x) : Int32.ofInt x = nI x.toNat := by
  conv => lhs; rw [← Int.toNat_of_nonneg h]
  exact Int32.ofInt_eq_ofNat
theorem o_nI' (k : Nat) : nI k = Int32.ofInt (k : Int) := Int32.ofInt_eq_ofNat.symm
theorem pw_idiv {x y : Int} (hd : decode (mB mi) pc = .ok (.idiv, 1)) (hx : 0 ≤ x ∧ x ≤ 2147483647) (hy : 0 < y ∧ y ≤ 2147483647) (k : PW mi d nf n0 Q (pc + 1) ls (vi (x / y) :: st) n ok mem) : PW mi d nf n0 Q pc ls (vi y :: vi x :: st) n ok mem := by
  intro p l e R s m args below meth c Z E ad0 H locs ad lsr C hW hS hv h0 h1 hag
  have e1 := o_nI hx.1
  have e2 := o_nI (Int.le_of_lt hy.1)
  have e3 : Int32.ofInt x / Int32.ofInt y = Int32.ofInt (x / y) := by
    rw [e1, e2, pk_div (by omega) (by omega) (by omega), o_nI']
    congr 1
    rw [Int.natCast_ediv, Int.toNat_of_nonneg hx.1, Int.toNat_of_nonneg (Int.le_of_lt hy.1)]
  refine lv_idiv C.1 C.2.1 hd ?_ ?_
  · rw [e2]; exact nI_ne0 (by omega) (by omega)
  · rw [e3]
    exact k p l e R s m args below meth c Z E ad0 H locs ad lsr C hW hS hv h0 h1 hag
theorem pw_irem {x y : Int} (hd : decode (mB mi) pc = .ok (.irem, 1)) (hx : 0 ≤ x ∧ x ≤ 2147483647) (hy : 0 < y ∧ y ≤ 2147483647) (k : PW mi d nf n0 Q (pc + 1) ls (vi (x % y) :: st) n ok mem) : PW mi d nf n0 Q pc ls (vi y :: vi x :: st) n ok mem := by
  intro p l e R s m args below meth c Z E ad0 H locs ad lsr C hW hS hv h0 h1 hag
  have e1 := o_nI hx.1
  have e2 := o_nI (Int.le_of_lt hy.1)
  have e3 : Int32.ofInt x - Int32.ofInt x / Int32.ofInt y * Int32.ofInt y = Int32.ofInt (x % y) := by
    rw [e1, e2, pk_rem (by omega) (by omega) (by omega), o_nI']
    congr 1
    rw [Int.natCast_emod, Int.toNat_of_nonneg hx.1, Int.toNat_of_nonneg (Int.le_of_lt hy.1)]
  refine lv_irem C.1 C.2.1 hd ?_ ?_
  · rw [e2]; exact nI_ne0 (by omega) (by omega)
  · rw [e3]
    exact k p l e R s m args below meth c Z E ad0 H locs ad lsr C hW hS hv h0 h1 hag
def iAnd (x y : Int) : Int := (Int32.ofInt x &&& Int32.ofInt y).toInt
def iOr (x y : Int) : Int := (Int32.ofInt x ||| Int32.ofInt y).toInt
def iXor (x y : Int) : Int := (Int32.ofInt x ^^^ Int32.ofInt y).toInt
def iShl (x y : Int) : Int := (Int32.ofInt x <<< (Int32.ofInt y &&& 31)).toInt
def iShr (x y : Int) : Int := (Int32.ofInt x >>> (Int32.ofInt y &&& 31)).toInt
def iUsh (x y : Int) : Int := ((Int32.ofInt x).toUInt32 >>> ((Int32.ofInt y).toUInt32 &&& Int32.toUInt32 31)).toInt32.toInt
def lXor (x y : Int) : Int := (Int64.ofInt x ^^^ Int64.ofInt y).toInt
def lCmp (x y : Int) : Int := if x < y then -1 else if x = y then 0 else 1
theorem pw_iand {x y : Int} (hd : decode (mB mi) pc = .ok (.iand, 1)) (k : PW mi d nf n0 Q (pc + 1) ls (vi (iAnd x y) :: st) n ok mem) : PW mi d nf n0 Q pc ls (vi y :: vi x :: st) n ok mem := by
  intro p l e R s m args below meth c Z E ad0 H locs ad lsr C hW hS hv h0 h1 hag
  refine lv_iand C.1 C.2.1 hd ?_
  rw [← Int32.ofInt_toInt (Int32.ofInt x &&& Int32.ofInt y)]
  exact k p l e R s m args below meth c Z E ad0 H locs ad lsr C hW hS hv h0 h1 hag
theorem pw_ior {x y : Int} (hd : decode (mB mi) pc = .ok (.ior, 1)) (k : PW mi d nf n0 Q (pc + 1) ls (vi (iOr x y) :: st) n ok mem) : PW mi d nf n0 Q pc ls (vi y :: vi x :: st) n ok mem := by
  intro p l e R s m args below meth c Z E ad0 H locs ad lsr C hW hS hv h0 h1 hag
  refine lv_ior C.1 C.2.1 hd ?_
  rw [← Int32.ofInt_toInt (Int32.ofInt x ||| Int32.ofInt y)]
  exact k p l e R s m args below meth c Z E ad0 H locs ad lsr C hW hS hv h0 h1 hag
theorem pw_ixor {x y : Int} (hd : decode (mB mi) pc = .ok (.ixor, 1)) (k : PW mi d nf n0 Q (pc + 1) ls (vi (iXor x y) :: st) n ok mem) : PW mi d nf n0 Q pc ls (vi y :: vi x :: st) n ok mem := by
  intro p l e R s m args below meth c Z E ad0 H locs ad lsr C hW hS hv h0 h1 hag
  refine lv_ixor C.1 C.2.1 hd ?_
  rw [← Int32.ofInt_toInt (Int32.ofInt x ^^^ Int32.ofInt y)]
  exact k p l e R s m args below meth c Z E ad0 H locs ad lsr C hW hS hv h0 h1 hag
theorem pw_ishl {x y : Int} (hd : decode (mB mi) pc = .ok (.ishl, 1)) (k : PW mi d nf n0 Q (pc + 1) ls (vi (iShl x y) :: st) n ok mem) : PW mi d nf n0 Q pc ls (vi y :: vi x :: st) n ok mem := by
  intro p l e R s m args below meth c Z E ad0 H locs ad lsr C hW hS hv h0 h1 hag
  refine lv_ishl C.1 C.2.1 hd ?_
  rw [← Int32.ofInt_toInt (Int32.ofInt x <<< (Int32.ofInt y &&& 31))]
  exact k p l e R s m args below meth c Z E ad0 H locs ad lsr C hW hS hv h0 h1 hag
theorem pw_ishr {x y : Int} (hd : decode (mB mi) pc = .ok (.ishr, 1)) (k : PW mi d nf n0 Q (pc + 1) ls (vi (iShr x y) :: st) n ok mem) : PW mi d nf n0 Q pc ls (vi y :: vi x :: st) n ok mem := by
  intro p l e R s m args below meth c Z E ad0 H locs ad lsr C hW hS hv h0 h1 hag
  refine lv_ishr C.1 C.2.1 hd ?_
  rw [← Int32.ofInt_toInt (Int32.ofInt x >>> (Int32.ofInt y &&& 31))]
  exact k p l e R s m args below meth c Z E ad0 H locs ad lsr C hW hS hv h0 h1 hag
theorem pw_iushr {x y : Int} (hd : decode (mB mi) pc = .ok (.iushr, 1)) (k : PW mi d nf n0 Q (pc + 1) ls (vi (iUsh x y) :: st) n ok mem) : PW mi d nf n0 Q pc ls (vi y :: vi x :: st) n ok mem := by
  intro p l e R s m args below meth c Z E ad0 H locs ad lsr C hW hS hv h0 h1 hag
  exact lv_iushr C.1 C.2.1 hd (Int32.ofInt_toInt _).symm (k p l e R s m args below meth c Z E ad0 H locs ad lsr C hW hS hv h0 h1 hag)
theorem pw_i2l {x : Int} (hd : decode (mB mi) pc = .ok (.i2l, 1)) (hx : -2147483648 ≤ x ∧ x ≤ 2147483647) (k : PW mi d nf n0 Q (pc + 1) ls (vl x :: st) n ok mem) : PW mi d nf n0 Q pc ls (vi x :: st) n ok mem := by
  intro p l e R s m args below meth c Z E ad0 H locs ad lsr C hW hS hv h0 h1 hag
  exact lv_i2l C.1 C.2.1 hd (by rw [← Int64.ofInt_int32ToInt, o_in hx.1 hx.2]) (k p l e R s m args below meth c Z E ad0 H locs ad lsr C hW hS hv h0 h1 hag)
theorem pw_ladd {x y : Int} (hd : decode (mB mi) pc = .ok (.ladd, 1)) (k : PW mi d nf n0 Q (pc + 1) ls (vl (x + y) :: st) n ok mem) : PW mi d nf n0 Q pc ls (vl y :: vl x :: st) n ok mem := by
  intro p l e R s m args below meth c Z E ad0 H locs ad lsr C hW hS hv h0 h1 hag
  refine lv_ladd C.1 C.2.1 hd ?_
  rw [← Int64.ofInt_add]
  exact k p l e R s m args below meth c Z E ad0 H locs ad lsr C hW hS hv h0 h1 hag
theorem pw_lmul {x y : Int} (hd : decode (mB mi) pc = .ok (.lmul, 1)) (k : PW mi d nf n0 Q (pc + 1) ls (vl (x * y) :: st) n ok mem) : PW mi d nf n0 Q pc ls (vl y :: vl x :: st) n ok mem := by
  intro p l e R s m args below meth c Z E ad0 H locs ad lsr C hW hS hv h0 h1 hag
  refine lv_lmul C.1 C.2.1 hd ?_
  rw [← Int64.ofInt_mul]
  exact k p l e R s m args below meth c Z E ad0 H locs ad lsr C hW hS hv h0 h1 hag
theorem pw_lxor {x y : Int} (hd : decode (mB mi) pc = .ok (.lxor, 1)) (k : PW mi d nf n0 Q (pc + 1) ls (vl (lXor x y) :: st) n ok mem) : PW mi d nf n0 Q pc ls (vl y :: vl x :: st) n ok mem := by
  intro p l e R s m args below meth c Z E ad0 H locs ad lsr C hW hS hv h0 h1 hag
  refine lv_lxor C.1 C.2.1 hd ?_
  rw [← Int64.ofInt_toInt (Int64.ofInt x ^^^ Int64.ofInt y)]
  exact k p l e R s m args below meth c Z E ad0 H locs ad lsr C hW hS hv h0 h1 hag
theorem pw_lcmp {x y : Int} (hd : decode (mB mi) pc = .ok (.lcmp, 1)) (hx : -9223372036854775808 ≤ x ∧ x ≤ 9223372036854775807) (hy : -9223372036854775808 ≤ y ∧ y ≤ 9223372036854775807) (k : PW mi d nf n0 Q (pc + 1) ls (vi (lCmp x y) :: st) n ok mem) : PW mi d nf n0 Q pc ls (vl y :: vl x :: st) n ok mem := by
  intro p l e R s m args below meth c Z E ad0 H locs ad lsr C hW hS hv h0 h1 hag
  refine W.lcmp C.1 C.2.1 hd ?_
  have ex : (Int64.ofInt x).toInt = x := Int64.toInt_ofInt_of_le (by omega) (by omega)
  have ey : (Int64.ofInt y).toInt = y := Int64.toInt_ofInt_of_le (by omega) (by omega)
  have e1 : lg_cmp (Int64.ofInt x) (Int64.ofInt y) = Int32.ofInt (lCmp x y) := by
    unfold lg_cmp lCmp
    simp only [gt_iff_lt, Int64.lt_iff_toInt_lt, ← Int64.toInt_inj, ex, ey]
    by_cases q1 : x < y
    · rw [if_neg (by omega), if_neg (by omega), if_pos q1]; rfl
    · by_cases q2 : x = y
      · rw [if_neg (by omega), if_pos q2, if_neg q1, if_pos q2]; rfl
      · rw [if_pos (by omega), if_neg q1, if_neg q2]; rfl
  rw [e1]
  exact k p l e R s m args below meth c Z E ad0 H locs ad lsr C hW hS hv h0 h1 hag
theorem tr_cat1 {ad : Nat → Nat} {v : pV} (h : isl v = false) : (tr ad v).category = 1 := by
  match v, h with
  | .inl _, _ => rfl
  | .inr (.inr a), _ =>
    show (if a = 0 then Value.null else .ref (ad a)).category = 1
    by_cases h : a = 0
    · rw [if_pos h]; rfl
    · rw [if_neg h]; rfl
theorem pw_dup {v : pV} (hd : decode (mB mi) pc = .ok (.dup, 1)) (hv1 : isl v = false) (k : PW mi d nf n0 Q (pc + 1) ls (v :: v :: st) n ok mem) : PW mi d nf n0 Q pc ls (v :: st) n ok mem := by
  intro p l e R s m args below meth c Z E ad0 H locs ad lsr C hW hS hv h0 h1 hag
  exact lv_dup C.1 C.2.1 hd (tr_cat1 hv1) (k p l e R s m args below meth c Z E ad0 H locs ad lsr C hW hS hv h0 h1 hag)
theorem pw_dup2 {v w : pV} (hd : decode (mB mi) pc = .ok (.dup2, 1)) (hv1 : isl v = false) (hw1 : isl w = false) (k : PW mi d nf n0 Q (pc + 1) ls (v :: w :: v :: w :: st) n ok mem) : PW mi d nf n0 Q pc ls (v :: w :: st) n ok mem := by
  intro p l e R s m args below meth c Z E ad0 H locs ad lsr C hW hS hv h0 h1 hag
  exact lv_dup2_11 C.1 C.2.1 hd (tr_cat1 hv1) (tr_cat1 hw1) (k p l e R s m args below meth c Z E ad0 H locs ad lsr C hW hS hv h0 h1 hag)
theorem pw_pop {v : pV} (hd : decode (mB mi) pc = .ok (.pop, 1)) (hv1 : isl v = false) (k : PW mi d nf n0 Q (pc + 1) ls st n ok mem) : PW mi d nf n0 Q pc ls (v :: st) n ok mem := by
  intro p l e R s m args below meth c Z E ad0 H locs ad lsr C hW hS hv h0 h1 hag
  exact lv_pop C.1 C.2.1 hd (tr_cat1 hv1) (k p l e R s m args below meth c Z E ad0 H locs ad lsr C hW hS hv h0 h1 hag)
theorem pw_goto {off : Int} (tgt : Nat) (ht : (pc : Int) + off = (tgt : Int)) (hd : decode (mB mi) pc = .ok (.goto off, 3)) (k : PW mi d nf n0 Q tgt ls st n ok mem) : PW mi d nf n0 Q pc ls st n ok mem := by
  intro p l e R s m args below meth c Z E ad0 H locs ad lsr C hW hS hv h0 h1 hag
  exact lv_goto C.1 C.2.1 hd ht (k p l e R s m args below meth c Z E ad0 H locs ad lsr C hW hS hv h0 h1 hag)
end PR
