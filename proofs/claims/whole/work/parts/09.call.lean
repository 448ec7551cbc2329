/-! ===== contracts from walks, and calls ===== -/
theorem NwS.warm {s U : State} (hW : s.WarmedH U.vm) (h : NwS s) : NwS U := by
  refine ⟨?_, h.2.moved hW.alike⟩
  intro w hw hn
  have h1 := h.1 w hw hn
  cases w with
  | fieldLinkNest a i b n d hh => exact va_Nw.warmF hW h1
  | methodLinkNest a i x hh => exact va_Nw.warmM hW h1
  | _ => cases hn
theorem NwS.same {s U : State} (hW : s.vm = U.vm) (h : NwS s) : NwS U := by
  refine ⟨?_, h.2.moved (by rw [hW]; exact Vm.Alike.refl U.vm)⟩
  intro w hw hn
  have h1 := h.1 w hw hn
  cases w with
  | fieldLinkNest a i b n d hh => exact va_Nw.same rfl hW h1
  | methodLinkNest a i x hh => exact va_Nw.same rfl hW h1
  | _ => cases hn
theorem StS.call {E : pE} {s U : State} {H : Heap} {locs : List Loc} (h : StS E s s.heap) (hS : va_S (pA E) s.heap H locs) (hW : s.WarmedH U.vm) (hU : U.heap = H) : StS E U U.heap := by
  obtain ⟨h1, h2, h3, h4, h5⟩ := h
  rw [hU]
  exact ⟨(h1.kept hS.2.1).moved hW.alike, (h2.kept hS.2.1).moved hW.alike, (h3.kept hS.2.1).moved hW.alike, (h4.kept hS.2.1).moved hW.alike, h5.warm hW⟩
theorem Wd.moved {E : pE} {ad : Nat → Nat} {n : Nat} {ok : pO} {mem : pM} {s U : State} {H H1 : Heap} (h : Wd E ad n ok mem s H) (hW : s.vm.Alike U.vm) (hU : H1 = H) : Wd E ad n ok mem U H1 := by
  obtain ⟨h1, h2, h3⟩ := h
  subst hU
  exact ⟨h1, va_K.moved hW h2, h3⟩
theorem pc_blind (E : pE) (ad : Nat → Nat) (n : Nat) (ok : pO) (mem : pM) (as : List Value) : FrameBlind (va_Pc as (fun U => eB E ≤ U.heap.size ∧ Wd E ad n ok mem U U.heap ∧ StS E U U.heap)) := by
  intro a U g mk h
  obtain ⟨h1, h2, h3, h4, h5, h6, h7, h8⟩ := h
  refine ⟨h1, h2, h3.moved (U := U.calling g mk a) (Vm.Alike.refl U.vm) rfl, ?_⟩
  exact ⟨h4.moved (U := U.calling g mk a) (Vm.Alike.refl U.vm), h5.moved (U := U.calling g mk a) (Vm.Alike.refl U.vm), h6.moved (U := U.calling g mk a) (Vm.Alike.refl U.vm), h7.moved (U := U.calling g mk a) (Vm.Alike.refl U.vm), NwS.same (s := U) (U := U.calling g mk a) rfl h8⟩
/-! arguments as locals -/
def lvA : Nat → List pV → List (Nat × pV)
  | _, [] => []
  | i, v :: vs => (i, v) :: lvA (if isl v = true then i + 2 else i + 1) vs
def wct (v : pV) : Nat := if isl v = true then 2 else 1
theorem tr_wct (ad : Nat → Nat) (v : pV) : (tr ad v).category = wct v := by
  unfold wct
  have h := tr_cat ad v
  by_cases e : isl v = true
  · rw [if_pos e]
    rw [e] at h
    exact eq_of_beq h
  · rw [if_neg e]
    exact tr_cat1 (by simpa using e)
theorem wct_map (ad : Nat → Nat) (st : List pV) : ((st.map (tr ad)).map fun v => v.category) = st.map wct := by
  rw [List.map_map]
  exact List.map_congr_left fun v _ => tr_wct ad v
theorem trL_args (ad : Nat → Nat) : ∀ (i : Nat) (as : List pV), lv_args i (as.map (tr ad)) = trL ad (lvA i as)
  | _, [] => rfl
  | i, v :: vs => by
    have e : ((tr ad v).category = 2) ↔ isl v = true := by
      have := tr_cat ad v
      rw [← this]
      simp
    show (i, tr ad v) :: lv_args (if (tr ad v).category = 2 then i + 2 else i + 1) (vs.map (tr ad)) = (i, tr ad v) :: trL ad (lvA (if isl v = true then i + 2 else i + 1) vs)
    by_cases h : isl v = true
    · rw [if_pos (e.mpr h), if_pos h, trL_args ad (i + 2) vs]
    · rw [if_neg (fun z => h (e.mp z)), if_neg h, trL_args ad (i + 1) vs]
theorem lg_len (ad : Nat → Nat) : ∀ (as : List pV), (lg_sl (as.map (tr ad))).length = (as.map wct).sum
  | [] => rfl
  | v :: vs => by
    have h1 := lg_len ad vs
    have h2 := tr_wct ad v
    unfold lg_sl at h1 ⊢
    rw [List.map_cons, List.flatMap_cons, List.length_append, h1, List.map_cons, List.sum_cons]
    congr 1
    unfold wct at h2 ⊢
    by_cases e : isl v = true
    · rw [if_pos e] at h2 ⊢
      rw [if_pos h2]; rfl
    · rw [if_neg e] at h2 ⊢
      rw [if_neg (by omega)]; rfl
theorem PM.of {mi : MI} {d : Nat} {as : List pV} {n : Nat} {ok : pO} {mem : pM} {nf : Nat} {Q : pQt} (hy : plainName (mY mi).cls = true) (hlaw : (mY mi).cls ≠ "PuzzleChestsLaw") (hn : n ≤ nf) (hlen : (as.map wct).sum ≤ mL mi) (k : PW mi d nf n Q 0 (lvA 0 as) [] n ok mem) : PM mi d as n ok mem nf Q := by
  refine ⟨hn, fun l E ad => ?_⟩
  refine Met.ofW (cc := mB mi) (maxL := mL mi) (ret := mR mi) hy rfl ?_
  intro p e s m args below meth c s₁ B hml hv
  obtain ⟨rfl, hB0, hW, hSt⟩ := hv
  have hts := atoms_spec (ws := wsM mi) B.pre
  have hr : meth.sig.returnType = mR mi := B.returns
  have hl := lv_entry (as.map (tr ad)) (n := mL mi) (by rw [lg_len]; exact hlen)
  rw [lg_entry_eq]
  generalize (lg_sl (as.map (tr ad)) ++ List.replicate (mL mi - (lg_sl (as.map (tr ad))).length) Slot.unset).toArray = lsr at hl ⊢
  rw [trL_args] at hl
  have hC : pC mi d nf n Q p l e (headSpec (wsM mi) (rmD d n nf)).room s m (as.map (tr ad)).toArray below meth c (MQ below (pQ E ad n nf Q) (as.map (tr ad)).toArray s (nf - n) (sS nf - sS n) (pA E)) E ad := by
    refine ⟨B.exec, B.bytes, hml, findClass_of_methodNamed B.named, fun w hw => hts w (List.mem_cons_of_mem _ hw), (name_of_methodNamed B.named B.method).1, ⟨Nat.le_refl _, Nat.le_refl _, Nat.le_refl _, Nat.le_refl _⟩, hB0, hSt, fun h => absurd h hlaw, ?_⟩
    intro r ok' mem' H locs ad' lsr pc hq hW' hS' hag hret
    have hqq : ∀ t : State, t.heap = H → s.WarmedH t.vm → pQ E ad n nf Q (as.map (tr ad)).toArray s (.returned (r.map (tr ad'))) t := fun t ht hw => ⟨r, ok', mem', ad', hq, rfl, hag, hW'.moved hw.alike ht, hS'.F ht⟩
    have hlocks : meth.locks = false := B.notSynchronized
    match r, hret with
    | none, hret => exact W.vret B.exec B.bytes (hr.trans hret.2) hqq hS'.2.2 hret.1
    | some (.inl x), hret =>
      rcases hret.2 with h | ⟨h, hx⟩
      · exact W.iret B.exec B.bytes (hr.trans h) hqq hS'.2.2 hret.1
      · exact W.zret B.exec B.bytes (hr.trans h) (by rcases hx with rfl | rfl <;> rfl) hqq hS'.2.2 hret.1
    | some (.inr (.inl x)), hret => exact W.lret B.exec B.bytes (hr.trans hret.2) hqq hS'.2.2 hret.1
    | some (.inr (.inr a)), hret =>
      obtain ⟨h1, rC, h2⟩ := hret
      refine W.aret B.exec B.bytes (hr.trans h2) (Or.inl ⟨rC, rfl⟩) ?_ hqq hS'.2.2 h1
      show (if a = 0 then Value.null else .ref (ad' a)) = .null ∨ ∃ b, (if a = 0 then Value.null else .ref (ad' a)) = .ref b
      by_cases e : a = 0
      · rw [if_pos e]; exact Or.inl rfl
      · rw [if_neg e]; exact Or.inr ⟨_, rfl⟩
  have := k p l e _ s m _ below meth c _ E ad s.heap [] ad lsr hC hW va_S.rf hl (Nat.le_refl _) hn (fun _ _ => rfl)
  rw [Nat.sub_self, Nat.sub_self] at this
  exact this
/-- behind a call, whatever it was -/
theorem run_pQ {p : Program} {l : Launch} {e : Env} {R : Room} {s : State} {m : MethodId} {args : Array Value} {below : List Frame} {meth : Method} {c : Code} {H : Heap} {locs : List Loc} {cells slots mc ms : Nat} {Z : State → Prop} {pc : Nat} {lsr : Array Slot} {st0 rest : List Value} {E : pE} {ad : Nat → Nat} {n n2 : Nat} {Q2 : pQt} {a0 : Array Value}
    (hr : va_Run p l e R s m args below meth c H locs cells slots mc ms (F0 m pc lsr st0) rest (pQ E ad n n2 Q2 a0) (pA E)) (hS : va_S (pA E) s.heap H locs)
    (kk : ∀ (r : Option pV) (ok' : pO) (mem' : pM) (ad' : Nat → Nat) (H1 : Heap) (locs1 : List Loc), Q2 r ok' mem' → (∀ a, (a ≤ n ∨ n2 < a) → ad' a = ad a) → Wd E ad' n2 ok' mem' s H1 → va_S (pA E) s.heap H1 locs1 → W p l e R s m args below meth c H1 locs1 (cells + mc) (slots + ms) Z (F0 m (pc + 3) lsr ((r.map (tr ad')).toList ++ rest))) :
    W p l e R s m args below meth c H locs cells slots Z (F0 m pc lsr st0) := by
  intro T hT X
  obtain ⟨v, st₀, t, T', L, h0, X', hL, e1, e2, ⟨r, ok', mem', ad', hq, hv, hag, hW, hz, hk⟩, st⟩ := hr T hT X
  cases hv
  rw [h0] at hz hk
  have hW1 : Wd E ad' n2 ok' mem' s T'.heap := hW.moved (by rw [← e2]; exact X'.warmed.alike.symm) e1
  obtain ⟨t2, a1, b1⟩ := kk r ok' mem' ad' T'.heap (locs ++ L) hq hag hW1
    ⟨Nat.le_trans hS.1 (by rw [e1]; exact hz), fun q h1 h2 => by rw [e1, hk q (Nat.lt_of_lt_of_le h1 hS.1) h2]; exact hS.2.1 q h1 h2, fun q hq => by
      rcases List.mem_append.mp hq with h | h
      · exact hS.2.2 q h
      · exact hL q h⟩ T' rfl X'
  exact ⟨t2, st t2 a1, b1⟩
/-- what is to be known of a method that is called: its words, how many arguments it has -/
def mOk (mc : MI) (na : Nat) : Prop := Cond.code (mY mc) (mB mc) (mL mc) (mR mc) ∈ lw_gd ∧ Cond.initialized (mY mc).cls ∈ lw_gd ∧ ((mY mc).cls ≠ "java/lang/invoke/MethodHandle" ∧ (mY mc).cls ≠ "java/lang/invoke/VarHandle" ∧ (parseMethodDescriptor (mY mc).desc).map (fun d => d.parameters.length) = some na) ∧ mL mc ≤ 20
def mOkV (mc : MI) (na : Nat) : Prop := mOk mc na ∧ Cond.instanceMethod (mY mc) ∈ lw_gd ∧ Cond.selects (mY mc).cls (mY mc) (mY mc) ∈ lw_gd
def mOkS (mc : MI) (na : Nat) : Prop := mOk mc na ∧ Cond.static (mY mc) ∈ lw_gd
def mOkI (mc : MI) (na : Nat) : Prop := mOk mc na ∧ Cond.instanceMethod (mY mc) ∈ lw_gd ∧ (mY mc).name = "<init>" ∧ mR mc = none
section PCall
variable {mi mc : MI} {d d' nf n0 : Nat} {Q Q2 : pQt} {pc idx : Nat} {ls : List (Nat × pV)} {rest : List pV} {n n2 na : Nat} {ok : pO} {mem : pM} {As : List pV}
theorem call_go {p : Program} {l : Launch} {e : Env} {R : Room} {s : State} {m : MethodId} {args : Array Value} {below : List Frame} {meth : Method} {c : Code} {H : Heap} {locs : List Loc} {Z : State → Prop} {lsr : Array Slot} {st0 : List Value} {E : pE} {ad ad0 : Nat → Nat} {a0 : Array Value}
    (hn2 : n2 ≤ nf) (hnn : n ≤ n2) (hnr : n2 = n ∨ ((∀ q ∈ ls, nrf n n2 q.2) ∧ ∀ v ∈ rest, nrf n n2 v)) (kk : ∀ (r : Option pV) (ok' : pO) (mem' : pM), Q2 r ok' mem' → PW mi d nf n0 Q (pc + 3) ls (r.toList ++ rest) n2 ok' mem')
    (C : pC mi d nf n0 Q p l e R s m args below meth c Z E ad0) (hS : va_S (pA E) s.heap H locs) (hv : lv_has lsr (mL mi) (trL ad ls)) (h0 : n0 ≤ n) (hag : ∀ a, (a ≤ n0 ∨ nf < a) → ad a = ad0 a)
    (hr : va_Run p l e R s m args below meth c H locs (n - n0) (sS n - sS n0) (n2 - n) (sS n2 - sS n) (F0 m pc lsr st0) (rest.map (tr ad)) (pQ E ad n n2 Q2 a0) (pA E)) (hss : sS n0 ≤ sS n ∧ sS n ≤ sS n2) :
    W p l e R s m args below meth c H locs (n - n0) (sS n - sS n0) Z (F0 m pc lsr st0) := by
  refine run_pQ hr hS (fun r ok' mem' ad' H1 locs1 hq hag2 hW1 hS1 => ?_)
  have e1 : trL ad' ls = trL ad ls ∧ rest.map (tr ad') = rest.map (tr ad) := by
    rcases hnr with h | ⟨h1, h2⟩
    · have : ad' = ad := by funext a; exact hag2 a (by omega)
      rw [this]; exact ⟨rfl, rfl⟩
    · exact ⟨trL_map hag2 h1, tr_map hag2 h2⟩
  rw [← e1.1] at hv
  have h2 := kk r ok' mem' hq p l e R s m args below meth c Z E ad0 H1 locs1 ad' lsr C hW1 hS1 hv (Nat.le_trans h0 hnn) hn2 (fun a ha => by rw [hag2 a (by omega), hag a ha])
  rw [show n - n0 + (n2 - n) = n2 - n0 by omega, show sS n - sS n0 + (sS n2 - sS n) = sS n2 - sS n0 by omega, ← e1.2]
  rw [List.map_append] at h2
  have e3 : (r.map (tr ad')).toList = r.toList.map (tr ad') := by cases r <;> rfl
  rw [e3]
  exact h2
theorem sS_step (n : Nat) : sS n ≤ sS (n + 1) := by
  unfold sS
  have h : layL.take (n + 1 + 1) = layL.take (n + 1) ++ layL[n + 1]?.toList := List.take_add_one
  rw [h, List.map_append, List.sum_append]
  exact Nat.le_add_right _ _
theorem sS_mono {a b : Nat} (h : a ≤ b) : sS a ≤ sS b := by
  induction h with
  | refl => exact Nat.le_refl _
  | step _ ih => exact Nat.le_trans ih (sS_step _)
theorem pre_go {s : State} {E : pE} {ad : Nat → Nat} {H : Heap} {locs : List Loc} (hB : eB E ≤ s.heap.size) (hSt : StS E s s.heap) (hW : Wd E ad n ok mem s H) (hS : va_S (pA E) s.heap H locs) (as : List pV) :
    PreS s H (va_Pc (as.map (tr ad)) (fun U => eB E ≤ U.heap.size ∧ Wd E ad n ok mem U U.heap ∧ StS E U U.heap)) (as.map (tr ad)) :=
  ⟨pc_blind E ad n ok mem (as.map (tr ad)), fun U hU hw => ⟨rfl, by rw [hU]; exact Nat.le_trans hB hS.1, hW.moved hw.alike hU, hSt.call hS hw hU⟩⟩
theorem pw_callS (hd : decode (mB mi) pc = .ok (.invokestatic idx, 3)) (hm : mOkS mc na) (hl : Cond.methodLink (mY mi).cls idx (mY mc) ∈ lw_gd) (hdd : d' + 1 ≤ d) (hna : As.length = na) (hst : (rest.map wct).sum ≤ 8) (hP : PM mc d' As n ok mem n2 Q2) (hn2 : n2 ≤ nf) (hnr : n2 = n ∨ ((∀ q ∈ ls, nrf n n2 q.2) ∧ ∀ v ∈ rest, nrf n n2 v))
    (kk : ∀ (r : Option pV) (ok' : pO) (mem' : pM), Q2 r ok' mem' → PW mi d nf n0 Q (pc + 3) ls (r.toList ++ rest) n2 ok' mem') : PW mi d nf n0 Q pc ls (As.reverse ++ rest) n ok mem := by
  intro p l e R s m args below meth c Z E ad0 H locs ad lsr C hW hS hv h0 h1 hag
  obtain ⟨⟨hcode, hini, hdsc, hml⟩, hsta⟩ := hm
  obtain ⟨hnn, hM⟩ := hP
  obtain ⟨hx, hb, hmL, hown, hts, hnm, ⟨hR1, hR2, hR3, hR4⟩, hB, hSt, hlw, hfin⟩ := id C
  have hs1 := sS_mono h0
  have hs2 := sS_mono hnn
  have hs3 := sS_mono hn2
  have hr : va_Run p l e R s m args below meth c H locs (n - n0) (sS n - sS n0) (n2 - n) (sS n2 - sS n) (F0 m pc lsr ((As.reverse ++ rest).map (tr ad))) (rest.map (tr ad)) (pQ E ad n n2 Q2 (As.map (tr ad)).toArray) (pA E) := va_runS (As := As.map (tr ad)) (rest := rest.map (tr ad)) (g := F0 m pc lsr ((As.reverse ++ rest).map (tr ad))) ⟨hx, hb, hmL, hown, hts⟩ (hM l E ad)
    ⟨callB_of na hts (gd_M hcode) rfl rfl rfl (hts _ hini) (hts _ hl) hdsc ⟨by show d' + 1 ≤ R.frames; omega, by show 8 + (mL mc + 11) + 39 * d' ≤ R.locals; omega⟩, hts _ hsta⟩ (pre_go hB hSt hW hS As) rfl (by rw [List.length_map]; exact hna) hv.1 (by rw [List.map_append, List.map_reverse]) (lv_room (by rw [wct_map]; exact hst)) hd ⟨by omega, by omega⟩
  exact call_go hn2 hnn hnr kk C hS hv h0 hag hr ⟨hs1, hs2⟩
theorem pw_callV {ci b : Nat} {vc : vw_C} (hd : decode (mB mi) pc = .ok (.invokevirtual idx, 3)) (hm : mOkV mc na) (hl : Cond.methodLink (mY mi).cls idx (mY mc) ∈ lw_gd) (hcl : vwCl[ci]? = some vc) (hvc : vc.1 = (mY mc).cls) (hO : Ob n ci b) (hdd : d' + 1 ≤ d) (hna : As.length = na) (hst : (rest.map wct).sum ≤ 8) (hP : PM mc d' (vr b :: As) n ok mem n2 Q2) (hn2 : n2 ≤ nf) (hnr : n2 = n ∨ ((∀ q ∈ ls, nrf n n2 q.2) ∧ ∀ v ∈ rest, nrf n n2 v))
    (kk : ∀ (r : Option pV) (ok' : pO) (mem' : pM), Q2 r ok' mem' → PW mi d nf n0 Q (pc + 3) ls (r.toList ++ rest) n2 ok' mem') : PW mi d nf n0 Q pc ls (As.reverse ++ vr b :: rest) n ok mem := by
  intro p l e R s m args below meth c Z E ad0 H locs ad lsr C hW hS hv h0 h1 hag
  obtain ⟨⟨hcode, hini, hdsc, hml⟩, hins, hsel⟩ := hm
  obtain ⟨hnn, hM⟩ := hP
  obtain ⟨hx, hb, hmL, hown, hts, hnm, ⟨hR1, hR2, hR3, hR4⟩, hB, hSt, hlw, hfin⟩ := id C
  have hs1 := sS_mono h0
  have hs2 := sS_mono hnn
  have hs3 := sS_mono hn2
  have hg := wsL_get E ad ok mem hO.1 hO.2.1
  rw [reE_obj (N := ln b) hO.2.2 rfl] at hg
  have hpre := pre_go hB hSt hW hS (vr b :: As)
  rw [List.map_cons, tr_ref hO.1] at hpre
  have hM2 := hM l E ad
  rw [List.map_cons, tr_ref hO.1] at hM2
  have hrv := va_recv hW.2.1 hW.1 hcl hg
  rw [hvc] at hrv
  have hr : va_Run p l e R s m args below meth c H locs (n - n0) (sS n - sS n0) (n2 - n) (sS n2 - sS n) (F0 m pc lsr ((As.reverse ++ vr b :: rest).map (tr ad))) (rest.map (tr ad)) (pQ E ad n n2 Q2 (Value.ref (ad b) :: As.map (tr ad)).toArray) (pA E) := va_runV (As := As.map (tr ad)) (rest := rest.map (tr ad)) (b := ad b) (g := F0 m pc lsr ((As.reverse ++ vr b :: rest).map (tr ad))) (C := (mY mc).cls) ⟨hx, hb, hmL, hown, hts⟩ hM2
    ⟨callB_of na hts (gd_M hcode) rfl rfl rfl (hts _ hini) (hts _ hl) hdsc ⟨by show d' + 1 ≤ R.frames; omega, by show 8 + (mL mc + 11) + 39 * d' ≤ R.locals; omega⟩, hts _ hins, hts _ hsel⟩ ⟨hpre.1, hrv, hpre.2⟩ rfl (by rw [List.length_map]; exact hna) hv.1 (by rw [List.map_append, List.map_reverse, List.map_cons, tr_ref hO.1]) (lv_room (by rw [wct_map]; exact hst)) hd ⟨by omega, by omega⟩
  exact call_go hn2 hnn hnr kk C hS hv h0 hag hr ⟨hs1, hs2⟩
theorem pw_callI {b : Nat} (hd : decode (mB mi) pc = .ok (.invokespecial idx, 3)) (hm : mOkI mc na) (hl : Cond.methodLink (mY mi).cls idx (mY mc) ∈ lw_gd ∨ ∃ host, Cond.methodLinkNest (mY mi).cls idx (mY mc) host ∈ lw_tbl) (hb1 : 1 ≤ b) (hdd : d' + 1 ≤ d) (hna : As.length = na) (hst : (rest.map wct).sum ≤ 8) (hP : PM mc d' (vr b :: As) n ok mem n2 Q2) (hn2 : n2 ≤ nf) (hnr : n2 = n ∨ ((∀ q ∈ ls, nrf n n2 q.2) ∧ ∀ v ∈ rest, nrf n n2 v))
    (kk : ∀ (r : Option pV) (ok' : pO) (mem' : pM), Q2 r ok' mem' → PW mi d nf n0 Q (pc + 3) ls (r.toList ++ rest) n2 ok' mem') : PW mi d nf n0 Q pc ls (As.reverse ++ vr b :: rest) n ok mem := by
  intro p l e R s m args below meth c Z E ad0 H locs ad lsr C hW hS hv h0 h1 hag
  obtain ⟨⟨hcode, hini, hdsc, hml⟩, hins, hnm1, hret⟩ := hm
  obtain ⟨hnn, hM⟩ := hP
  obtain ⟨hx, hb, hmL, hown, hts, hnm, ⟨hR1, hR2, hR3, hR4⟩, hB, hSt, hlw, hfin⟩ := id C
  have hs1 := sS_mono h0
  have hs2 := sS_mono hnn
  have hs3 := sS_mono hn2
  have hpre := pre_go hB hSt hW hS (vr b :: As)
  rw [List.map_cons, tr_ref hb1] at hpre
  have hM2 := hM l E ad
  rw [List.map_cons, tr_ref hb1] at hM2
  have hw : wsM mc = Cond.code (mY mc) (mB mc) (mL mc) none :: lw_gd := by unfold wsM; rw [hret]
  rcases hl with hl | ⟨host, hl⟩
  · have hr : va_Run p l e R s m args below meth c H locs (n - n0) (sS n - sS n0) (n2 - n) (sS n2 - sS n) (F0 m pc lsr ((As.reverse ++ vr b :: rest).map (tr ad))) (rest.map (tr ad)) (pQ E ad n n2 Q2 (Value.ref (ad b) :: As.map (tr ad)).toArray) (pA E) := va_runI (As := As.map (tr ad)) (rest := rest.map (tr ad)) (b := ad b) (g := F0 m pc lsr ((As.reverse ++ vr b :: rest).map (tr ad))) ⟨hx, hb, hmL, hown, hts⟩ hM2
      ⟨callB_of na hts (gd_M hcode) hw rfl rfl (hts _ hini) (hts _ hl) hdsc ⟨by show d' + 1 ≤ R.frames; omega, by show 8 + (mL mc + 11) + 39 * d' ≤ R.locals; omega⟩, hnm1, hts _ hins⟩ hpre rfl (by rw [List.length_map]; exact hna) hv.1 (by rw [List.map_append, List.map_reverse, List.map_cons, tr_ref hb1]) (lv_room (by rw [wct_map]; exact hst)) hd ⟨by omega, by omega⟩
    exact call_go hn2 hnn hnr kk C hS hv h0 hag hr ⟨hs1, hs2⟩
  · have hr : va_Run p l e R s m args below meth c H locs (n - n0) (sS n - sS n0) (n2 - n) (sS n2 - sS n) (F0 m pc lsr ((As.reverse ++ vr b :: rest).map (tr ad))) (rest.map (tr ad)) (pQ E ad n n2 Q2 (Value.ref (ad b) :: As.map (tr ad)).toArray) (pA E) := va_runIN (As := As.map (tr ad)) (rest := rest.map (tr ad)) (b := ad b) (g := F0 m pc lsr ((As.reverse ++ vr b :: rest).map (tr ad))) ⟨hx, hb, hmL, hown, hts⟩ hM2
      ⟨va_cnB na hts (gd_M hcode) hw rfl rfl (hSt.2.2.2.2.1 _ hl rfl) (hts _ hini) hdsc ⟨by show d' + 1 ≤ R.frames; omega, by show 8 + (mL mc + 11) + 39 * d' ≤ R.locals; omega⟩, hnm1, hts _ hins⟩ hpre rfl (by rw [List.length_map]; exact hna) hv.1 (by rw [List.map_append, List.map_reverse, List.map_cons, tr_ref hb1]) (lv_room (by rw [wct_map]; exact hst)) hd ⟨by omega, by omega⟩
    exact call_go hn2 hnn hnr kk C hS hv h0 hag hr ⟨hs1, hs2⟩
end PCall
