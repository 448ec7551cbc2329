/-! THE CLAIM OUT OF ONE WALK OF THE LAW'S BODY. Your part is whole_start (and what it stands on); all else here is the same for every law, but numbers. -/
def R_law : String := "PuzzleChestsLaw"
def lw_P (b : Addr) (xs : List Int32) (args : Array Value) (s : State) : Prop := args = #[.ref b] ∧ s.IntsAt b xs ∧ xs.length ≤ 3584 ∧ (Jvm.Cond.and given_1 narrow_1).before args s = true
def lw_Q (_ : Array Value) (s : State) (o : Outcome) (t : State) : Prop := o = .returned (some (.int 1)) ∧ Framed s o t [] 600000 7302250
def lw_Z (below : List Frame) (a : Array Value) (s : State) : State → Prop := fun t => ∃ o, t.status = .running ∧ Ended t below o ∧ lw_Q a s o t
/-- the law's own end, with 1 on the stack, nothing written that was there before, its room as the claim has it -/
theorem lw_ret {p : Program} {l : Launch} {e : Env} {s : State} {m : MethodId} {below : List Frame} {meth : Method} {c : Code} {b : Nat} (hx : p.tables.exec = Jvm.exec) (hb : c.code = code) (hr : meth.sig.returnType = ret) (hlocks : meth.locks = false) {pc : Nat} {H : Heap} {ls : Array Slot} (hdg : decode code pc = .ok (.ireturn, 1)) : W p l e room_1 s m #[Value.ref b] below meth c H [] 600000 7302250 (lw_Z below #[Value.ref b] s) (F0 m pc ls [.int 1]) := by
  intro T hT X
  obtain ⟨fs, hret, hrun, hended, hW, hframe⟩ := X.leave (v := some (.int 1)) (hlocks := hlocks) (fun h => by rw [hr] at h; cases h)
  have hmeth' : T.vm.method? m = some meth := X.method'
  refine ⟨T.setFrames fs, ?_, .returned (some (.int 1)), hrun, hended, rfl, ⟨_, rfl⟩, hW, hframe⟩
  jvm_step X.here [X.here.top, hx, hb, hdg, hmeth', hr, ret, narrow_b1]
  (try refine ⟨rfl, ?_⟩); (try refine ⟨rfl, ?_⟩)
  first | (intro acts; rw [hret _ acts rfl rfl rfl]) | rw [hret _ _ rfl rfl rfl]
  exact Steps.refl _
/-- what holds at the law's entry: the machine, the code, the tables' words (any of lw_tbl by 'hts w (by decide +kernel)'), the script of L ints xs at the cell b, what the Statement gives of the start (any of its parts by flat_of_before) -/
def lw_At (p : Program) (s : State) (m : MethodId) (meth : Method) (c : Code) (b L : Nat) (xs : Nat → Int32) : Prop :=
  p.tables.exec = Jvm.exec ∧ c.code = code ∧ meth.sig.returnType = ret ∧ c.maxLocals = 4 ∧ s.vm.findClass R_law = some m.cls ∧ (∀ w ∈ lw_tbl, w.before #[Value.ref b] s = true) ∧ va_X b L xs s s.heap ∧ b < s.heap.size ∧ meth.locks = false ∧ (Jvm.Cond.and given_1 narrow_1).before #[Value.ref b] s = true
set_option maxHeartbeats 8000000 in
set_option maxRecDepth 100000 in
theorem whole_start {p : Program} {e : Env} {s : State} {m : MethodId} {below : List Frame} {meth : Method} {c : Code} (l : Launch) {b L : Nat} {xs : Nat → Int32} (hL : L ≤ 3584) (C0 : lw_At p s m meth c b L xs) : W p l e room_1 s m #[Value.ref b] below meth c s.heap [] 0 0 (lw_Z below #[Value.ref b] s) (entryFrame m ([Value.ref b] : List Value).toArray 4) := by
  obtain ⟨hx, hb, hr, hml, hown, hts, hX, hbl, hlocks, hgv⟩ := id C0
  have hgd : ∀ w ∈ lw_gd, w.before #[Value.ref b] s = true := fun w hw => hts w (List.mem_filter.mp hw).1
  have hs := flat_of_before _ hgv
  obtain ⟨c0, i0, hKn0⟩ := u_known (C := RX0) (T := TX0) (N := 15) (n := 15) hgd cOk0.2.1 (hgd _ kw_121)
  obtain ⟨c1, i1, hKn1⟩ := u_known (C := RX1) (T := TX1) (N := 8) (n := 8) hgd cOk1.2.1 (hgd _ kw_127)
  obtain ⟨c2, i2, hKn2⟩ := u_known (C := RX2) (T := TX2) (N := 1) (n := 1) hgd cOk2.2.1 (hgd _ kw_295)
  obtain ⟨c3, i3, hKn3⟩ := u_known (C := RX3) (T := TX3) (N := 3) (n := 3) hgd cOk3.2.1 (hgd _ kw_173)
  obtain ⟨c4, i4, hKn4⟩ := u_known (C := RX4) (T := TX4) (N := 4) (n := 4) hgd cOk4.2.1 (hgd _ kw_305)
  obtain ⟨c5, i5, hKn5⟩ := u_known (C := RX5) (T := TX5) (N := 4) (n := 4) hgd cOk5.2.1 (hgd _ kw_97)
  obtain ⟨c6, i6, hKn6⟩ := u_known (C := RX6) (T := TX6) (N := 3) (n := 3) hgd cOk6.2.1 (hgd _ kw_538)
  obtain ⟨c7, i7, hKn7⟩ := u_known (C := RX7) (T := TX7) (N := 16) (n := 16) hgd cOk7.2.1 (hgd _ kw_532)
  obtain ⟨c8, i8, hKn8⟩ := u_known (C := RX8) (T := TX8) (N := 2) (n := 2) hgd cOk8.2.1 (hgd _ kw_333)
  obtain ⟨c9, i9, hKn9⟩ := u_known (C := RX9) (T := TX9) (N := 17) (n := 17) hgd cOk9.2.1 (hgd _ kw_89)
  obtain ⟨c10, i10, hKn10⟩ := u_known (C := RX10) (T := TX10) (N := 57) (n := 57) hgd cOk10.2.1 (hgd _ kw_1055)
  obtain ⟨dC, dI, hKc⟩ : ∃ (dC : Nat → ClassId) (dI : Nat → Nat → Nat), ∀ (k : Nat) (q : vw_C), vwCl[k]? = some q → u_Kn s q.1 q.2.1 q.2.2 (dC k) (dI k) := by
    refine ⟨fun k => if k = 0 then c0 else if k = 1 then c1 else if k = 2 then c2 else if k = 3 then c3 else if k = 4 then c4 else if k = 5 then c5 else if k = 6 then c6 else if k = 7 then c7 else if k = 8 then c8 else if k = 9 then c9 else c10, fun k => if k = 0 then i0 else if k = 1 then i1 else if k = 2 then i2 else if k = 3 then i3 else if k = 4 then i4 else if k = 5 then i5 else if k = 6 then i6 else if k = 7 then i7 else if k = 8 then i8 else if k = 9 then i9 else i10, ?_⟩
    intro k q hq
    match k, hq with
    | 0, hq => cases hq; exact hKn0
    | 1, hq => cases hq; exact hKn1
    | 2, hq => cases hq; exact hKn2
    | 3, hq => cases hq; exact hKn3
    | 4, hq => cases hq; exact hKn4
    | 5, hq => cases hq; exact hKn5
    | 6, hq => cases hq; exact hKn6
    | 7, hq => cases hq; exact hKn7
    | 8, hq => cases hq; exact hKn8
    | 9, hq => cases hq; exact hKn9
    | 10, hq => cases hq; exact hKn10
    | k + 11, hq => simp [vwCl] at hq
  obtain ⟨cI, kI, pI, hI1, hI2, hI3⟩ := Cond.arrayClass_spec (hgd _ kw_118)
  obtain ⟨cZ, kZ, pZ, hZ1, hZ2, hZ3⟩ := Cond.arrayClass_spec (hgd _ kw_331)
  obtain ⟨pC9, cC9, kC9, hC1, hC2, hC3, hC4, hC5⟩ := Cond.arrayOver_spec (hts (Cond.arrayOver (.object "PuzzleChests$Chest")) (by decide +kernel))
  have hK : va_K (dC, dI) vwCl [(cI, .int), (cZ, .boolean), (cC9, .object "PuzzleChests$Chest")] s := by
    refine ⟨hKc, fun k q h => ?_⟩
    match k, h with
    | 0, h => cases h; exact ⟨fun n z => ⟨fun k h => (by cases h), kI, hI2, pI, hI3⟩, hI1⟩
    | 1, h => cases h; exact ⟨fun n z => ⟨fun k h => (by cases h), kZ, hZ2, pZ, hZ3⟩, hZ1⟩
    | 2, h => cases h; exact ⟨fun n z => ⟨fun k h => (by cases h), kC9, hC3, pC9, hC4⟩, kC9, pC9, hC3, hC4, hC1, hC5⟩
    | k + 3, h => simp at h
  have hA : ∀ a : Nat, a < s.heap.size → ¬ (fun q : Nat => s.heap.size ≤ q) a := fun a ha => Nat.not_le.mpr ha
  obtain ⟨t1, ht1, hT1⟩ := va_Tof (tm := .static "PuzzleChests" "TELLING" "[I") (ty := .int) (N := 6) (f := fun j => .int (Int32.ofInt (sTel j))) (A := fun q : Nat => s.heap.size ≤ q) (by decide) (hs (Cond.arrayOf (.static "PuzzleChests" "TELLING" "[I") .int) (by decide +kernel)) (va_eqt (hs (Cond.eq (.length (.static "PuzzleChests" "TELLING" "[I")) (.int 6)) (by decide +kernel))) (fun j hj => by
    rcases (show j = 0 ∨ j = 1 ∨ j = 2 ∨ j = 3 ∨ j = 4 ∨ j = 5 by omega) with e | e | e | e | e | e
    · subst e; exact va_eqt (hs (Cond.eq (.elem (.static "PuzzleChests" "TELLING" "[I") (.int 0)) (.int 1)) (by decide +kernel))
    · subst e; exact va_eqt (hs (Cond.eq (.elem (.static "PuzzleChests" "TELLING" "[I") (.int 1)) (.int 2)) (by decide +kernel))
    · subst e; exact va_eqt (hs (Cond.eq (.elem (.static "PuzzleChests" "TELLING" "[I") (.int 2)) (.int 1)) (by decide +kernel))
    · subst e; exact va_eqt (hs (Cond.eq (.elem (.static "PuzzleChests" "TELLING" "[I") (.int 3)) (.int 3)) (by decide +kernel))
    · subst e; exact va_eqt (hs (Cond.eq (.elem (.static "PuzzleChests" "TELLING" "[I") (.int 4)) (.int 4)) (by decide +kernel))
    · subst e; exact va_eqt (hs (Cond.eq (.elem (.static "PuzzleChests" "TELLING" "[I") (.int 5)) (.int 1)) (by decide +kernel))) hA
  obtain ⟨t2, ht2, hT2⟩ := va_Tof (tm := .static "PuzzleChests$Draws" "SEATS_DRAWN" "[I") (ty := .int) (N := 4) (f := fun j => .int (Int32.ofInt (sDrw j))) (A := fun q : Nat => s.heap.size ≤ q) (by decide) (hs (Cond.arrayOf (.static "PuzzleChests$Draws" "SEATS_DRAWN" "[I") .int) (by decide +kernel)) (va_eqt (hs (Cond.eq (.length (.static "PuzzleChests$Draws" "SEATS_DRAWN" "[I")) (.int 4)) (by decide +kernel))) (fun j hj => by
    rcases (show j = 0 ∨ j = 1 ∨ j = 2 ∨ j = 3 by omega) with e | e | e | e
    · subst e; exact va_eqt (hs (Cond.eq (.elem (.static "PuzzleChests$Draws" "SEATS_DRAWN" "[I") (.int 0)) (.int 0)) (by decide +kernel))
    · subst e; exact va_eqt (hs (Cond.eq (.elem (.static "PuzzleChests$Draws" "SEATS_DRAWN" "[I") (.int 1)) (.int 1)) (by decide +kernel))
    · subst e; exact va_eqt (hs (Cond.eq (.elem (.static "PuzzleChests$Draws" "SEATS_DRAWN" "[I") (.int 2)) (.int 4)) (by decide +kernel))
    · subst e; exact va_eqt (hs (Cond.eq (.elem (.static "PuzzleChests$Draws" "SEATS_DRAWN" "[I") (.int 3)) (.int 5)) (by decide +kernel))) hA
  obtain ⟨E, hE⟩ : ∃ E : pE, E = ((dC, dI), (cI, cZ, cC9), (s.heap.size, t1, t2)) := ⟨_, rfl⟩
  obtain ⟨ad0, had⟩ : ∃ ad0 : Nat → Nat, ad0 = fun a => if a = 1001 then t1 else if a = 1002 then t2 else b := ⟨_, rfl⟩
  have a3 : ad0 1003 = b := by rw [had]; rfl
  have hNw : NwS s := ⟨fun w hw hn => va_Nw.of (by cases w <;> first | rfl | (simp [isNst] at hn)) (hts w hw), va_AO.of (hts (Cond.arrayOver (.object "PuzzleChests$Chest")) (by decide +kernel))⟩
  have hSt : StS E s s.heap := by
    subst hE
    exact ⟨va_Zof (hts (Cond.laysStatic "PuzzleChests" "TELLING" "[I") (by decide +kernel)) (hgd _ kw_74) ht1 hA, hT1, va_Zof (hts (Cond.laysStatic "PuzzleChests$Draws" "SEATS_DRAWN" "[I") (by decide +kernel)) (hgd _ kw_79) ht2 hA, hT2, hNw⟩
  have hKE : va_K (eD E) vwCl (pTy E) s := by subst hE; exact hK
  have hBE : eB E = s.heap.size := by rw [hE]
  have hxs : ∀ j, -2147483648 ≤ (xs j).toInt ∧ (xs j).toInt ≤ 2147483647 := fun j => by
    have h1 := Int32.le_toInt (xs j)
    have h2 := Int32.toInt_lt (xs j)
    omega
  have hxe : (fun j => Int32.ofInt ((xs j).toInt)) = xs := funext fun j => Int32.ofInt_toInt _
  have key : ∀ nf : Nat, (nf = 122 ∧ ¬ Cr L (fun j => (xs j).toInt) 0) ∨ (nf = 133 ∧ Cr L (fun j => (xs j).toInt) 0) → W p l e room_1 s m #[Value.ref b] below meth c s.heap [] 0 0 (lw_Z below #[Value.ref b] s) (entryFrame m ([Value.ref b] : List Value).toArray 4) := fun nf hnf => by
    have hsl : nf ≤ 133 ∧ sS nf - sS 0 ≤ 7302250 := by
      rcases hnf with z | z
      · rw [z.1]; exact ⟨by omega, by decide +kernel⟩
      · rw [z.1]; exact ⟨by omega, by decide +kernel⟩
    have hC : pC (miL meth.name L (fun j => (xs j).toInt)) 10 nf 0 (fun r _ _ => r = some (vi 1)) p l e room_1 s m #[Value.ref b] below meth c (lw_Z below #[Value.ref b] s) E ad0 := by
      refine ⟨hx, hb, hml, hown, hgd, rfl, ⟨Nat.le_of_ble_eq_true rfl, Nat.le_of_ble_eq_true rfl, show nf - 0 ≤ 600000 by omega, show sS nf - sS 0 ≤ 7302250 from hsl.2⟩, Nat.le_of_eq hBE, hSt, fun _ => ⟨?_, by rw [a3]; exact hbl, ?_, show L < 2147483648 by omega, by omega⟩, ?_⟩
      · show va_X (ad0 1003) L (fun j => Int32.ofInt ((xs j).toInt)) s s.heap
        rw [a3, hxe]; exact hX
      · show ¬ eB E ≤ ad0 1003
        rw [a3, hBE]; exact Nat.not_le.mpr hbl
      · intro r ok mem H locs ad lsr pc hq hW hS hag hret
        subst hq
        refine va_forget (fun q hq => ?_) (W.widen (k := 600000) (n := 7302250) (by omega) hsl.2 (lw_ret hx hb hr hlocks hret.1))
        have := hS.2.2 q hq
        rw [← hBE]; exact this
    have hl := lv_entry ([.ref b]) (n := 4) (Nat.le_of_ble_eq_true rfl)
    rw [lg_entry_eq]
    generalize (lg_sl ([.ref b]) ++ List.replicate (4 - (lg_sl ([.ref b])).length) Slot.unset).toArray = ls at hl ⊢
    have hl : lv_has ls 4 [(0, .ref b)] := hl
    have hl2 : lv_has ls (mL (miL meth.name L (fun j => (xs j).toInt))) (trL ad0 [(0, vr 1003)]) := by
      show lv_has ls 4 [(0, .ref (ad0 1003))]
      rw [a3]; exact hl
    have hWd : Wd E ad0 0 (fun _ _ => false) (fun _ _ => 0) s s.heap := by
      refine ⟨fun k q h => by simp [wsL] at h, hKE, ⟨fun i j p q h => by simp [wsL] at h, fun k q h => by simp [wsL] at h⟩, ⟨fun _ _ => ⟨show (-2147483648 : Int) ≤ 0 by decide, show (0 : Int) ≤ 2147483647 by decide⟩, fun a k h1 h2 => by omega, fun a k h1 h2 => by omega, fun a k h1 h2 => by omega, by omega⟩, ?_, ?_⟩
      · rw [had, hE]; rfl
      · rw [had, hE]; rfl
    have h := law_start meth.name L hL (fun j => (xs j).toInt) hxs 10 nf (by omega) (fun r _ _ => r = some (vi 1)) (fun _ _ => rfl) hnf (fun _ _ => false) (fun _ _ => 0) p l e room_1 s m #[Value.ref b] below meth c (lw_Z below #[Value.ref b] s) E ad0 s.heap [] ad0 ls hC hWd va_S.rf hl2 (Nat.le_refl _) (Nat.zero_le _) (fun _ _ => rfl)
    rw [Nat.sub_self, Nat.sub_self] at h
    exact h
  by_cases hcr : Cr L (fun j => (xs j).toInt) 0
  · exact key 133 (Or.inr ⟨rfl, hcr⟩)
  · exact key 122 (Or.inl ⟨rfl, hcr⟩)
set_option maxHeartbeats 4000000 in
theorem lw_walk (l : Launch) (b : Addr) (xs : List Int32) : MetFree l x (headSpec (Jvm.Cond.code x code maxLocals ret :: tables_1) room_1) (lw_P b xs) (fun _ _ _ _ _ => True) lw_Q := by
  refine MetFree.of_bodyS (code := code) (maxLocals := maxLocals) (ret := ret) (by decide) ?_ ?_
  · intro args s m h hn
    obtain ⟨meth, c, h1, h2, h3, h4, h5, h6, -, -⟩ := Cond.code_spec hn (atoms_spec (ws := Jvm.Cond.code x code maxLocals ret :: tables_1) h _ List.mem_cons_self)
    exact ⟨meth, c, h1, h2, h3, h4, h5, h6⟩
  · intro p e s m args below meth c s₁ B hml0 hP _
    obtain ⟨rfl, hx, hbd, hgv⟩ := hP
    obtain ⟨scr, harrAt, hlist, hof, hsmall⟩ := hx
    obtain ⟨hcb, hkn, -, -⟩ := State.arrayAt?_spec harrAt
    have hown : s.vm.findClass R_law = some m.cls := findClass_of_methodNamed B.named
    have hts0 : ∀ c ∈ (Jvm.Cond.code x code maxLocals ret :: tables_1), c.before #[Value.ref b] s = true := atoms_spec (ws := Jvm.Cond.code x code maxLocals ret :: tables_1) B.pre
    have hts : ∀ w ∈ lw_tbl, w.before #[Value.ref b] s = true := k2_hts_sels lw_privs (fun w hw => hts0 w (List.mem_cons_of_mem _ hw)) lw_privs_ok
    have hml : c.maxLocals = 4 := B.maxLocals_eq (hts0 _ List.mem_cons_self)
    have X₀ : Stand p l e room_1 s m #[Value.ref b] below meth c s₁ [] 0 0 := Stand.of_body B
    have hh0 : s₁.heap = s.heap := by rw [B.state]; rfl
    have hsz : scr.slots.size = xs.length := by rw [← Array.length_toList, hlist, List.length_map]
    have hval : ∀ j : Nat, j < xs.length → scr.slots[j]? = some (.int (xs.getD j 0)) := fun j hj => by
      rw [← Array.getElem?_toList, hlist]
      simp [hj]
    have hbl : b < s.heap.size := (Array.getElem?_eq_some_iff.mp hcb).1
    have hX : va_X b xs.length (fun j => xs.getD j 0) s s.heap := ⟨scr, hcb, hof, hkn, hsz, hval⟩
    have K : W p l e room_1 s m #[Value.ref b] below meth c s₁.heap [] 0 0 (lw_Z below #[Value.ref b] s) (entryFrame m ([Value.ref b] : List Value).toArray 4) := by
      rw [hh0]
      exact whole_start l hbd ⟨B.exec, B.bytes, B.returns, hml, hown, hts, hX, hbl, B.notSynchronized, hgv⟩
    obtain ⟨t, a1, o, b1, b2, b3⟩ := K s₁ rfl X₀
    exact ⟨t, o, a1, b1, b2, b3⟩
theorem lw_pre_spec {args : Array Value} {s : State} (h : (Jvm.Cond.and given_1 narrow_1).before args s = true) (hr : rest_1_c.before args s = true) : ∃ (b : Addr) (xs : List Int32), lw_P b xs args s := by
  have hs := flat_of_before _ h
  have hq := flat_of_before _ hr
  have hc : (Cond.count 1).before args s = true := hs _ (by decide +kernel)
  have harr : (Cond.arrayOf (.arg 0) .int).before args s = true := hs _ (by decide +kernel)
  have hle : (Cond.le (.length (.arg 0)) (.int 3584)).before args s = true := hs _ (by decide +kernel)
  have hlen : (Cond.isInt (.length (.arg 0))).before args s = true := hq _ (by decide +kernel)
  have hall : (Cond.all (.arg 0) (.isInt (.elem (.arg 0) (.index 0)))).before args s = true := hq _ (by decide +kernel)
  obtain ⟨b, xs, hb, hx⟩ := State.ints_of_pre rfl harr hlen hall
  have hsm : xs.length < 2 ^ 31 := hx.choose_spec.2.2.2
  have hev : (Term.length (.arg 0)).eval args s none [] s = some (.int xs.length.toInt32) := hx.length_eval hb
  have hv := Cond.le_ints hev (show (Term.int 3584).eval args s none [] s = some (.int 3584) from rfl)
  have hd : xs.length.toInt32 ≤ 3584 := by
    simpa [Cond.before, Cond.holds, hv] using hle
  have hN : xs.length ≤ 3584 := (Int32.ofNat_le_ofNat hsm (by decide)).mp (show Int32.ofNat xs.length ≤ Int32.ofNat 3584 from hd)
  exact ⟨b, xs, Cond.one_arg hc (show args[0]? = some (.ref b) from hb), hx, hN, h⟩
theorem lw_comes (l : Launch) : Comes l x (Jvm.Cond.code x code maxLocals ret :: tables_1) room_1 (fun tb e args s => Calls_1 tb e args s ∧ rest_1 tb e args s ∧ Pre_1 tb e args s)
    (fun _ _ args s o t => lw_Q args s o t) := by
  intro p e ha hc hk s m args below hf hfit hheap happ hpre
  obtain ⟨b, xs, hP⟩ := lw_pre_spec hpre.2.2 hpre.2.1
  obtain ⟨k, o, h1, h2, h3, hQ⟩ := lw_walk l b xs p e ha hc hk s m args below hf ((Spec.applies_iff_loose hf).mp happ).1 hP trivial
  exact ⟨k, o, h1, h2, h3, hQ⟩
theorem lw_frame {s t : State} {o : Outcome} {args : Array Value} (h : Framed s o t [] 600000 7302250) :
    Framed s o t (fieldLocs frame_1_writes args s ++ arrayLocs frame_1_arrays args s ++ staticLocs frame_1_statics s) 600000 7302250 := h
theorem lw_limb (L : Cond) (hL : ∀ (args : Array Value) (s t : State), L.after args s (.returned (some (.int 1))) t = true) :
    ArmFor flags0 classFile x code maxLocals ret World_1 tables_1 room_1 Calls_1 rest_1 Pre_1
      (fun tb e a s o t => postC L tb e a s o t ∧ Framed s o t (fieldLocs frame_1_writes a s ++ arrayLocs frame_1_arrays a s ++ staticLocs frame_1_statics s) 600000 7302250) := by
  intro l _ _ _ p e ha hc hk s m args below hf hfit hheap happ hpre
  obtain ⟨k, o, h1, h2, h3, rfl, hF⟩ := lw_comes l p e ha hc hk s m args below hf hfit hheap happ hpre
  exact ⟨k, _, h1, h2, h3, hL args s _, lw_frame hF⟩
theorem i_vc : Claimed_1_1 ∧ Claimed_1_2 := ⟨lw_limb limb_1_1 (fun args s t => by simp [limb_1_1, Cond.after, Cond.holds, Cond.value]), lw_limb limb_1_2 (fun args s t => Cond.after_iff.mpr (by
  first | (rw [show limb_1_2 = Cond.eq .result (.int 1) from rfl, Cond.eq_ints (x := 1) (y := 1) rfl rfl]; simp; done) | (simp [limb_1_2, Cond.value, Term.eval]; done)))⟩
