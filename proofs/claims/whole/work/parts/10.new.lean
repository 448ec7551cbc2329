/-! ===== rows of new cells, statics, Object.<init>, Math.min, System.arraycopy, the script ===== -/
section PN
variable {mi : MI} {d nf n0 : Nat} {Q : pQt} {pc : Nat} {ls : List (Nat × pV)} {st : List pV} {n : Nat} {ok : pO} {mem : pM}
variable {ci N : Nat} {C0 : String} {T : u_T} {ty : Nat → FieldType} {a idx : Nat}
theorem sS_next {n : Nat} (h : n < 133) : sS (n + 1) = sS n + ln (n + 1) := by
  unfold sS ln
  have h1 : layL.take (n + 1 + 1) = layL.take (n + 1) ++ layL[n + 1]?.toList := List.take_add_one
  have hlen : layL.length = 134 := by decide +kernel
  rw [h1, List.map_append, List.sum_append, List.getD_eq_getElem?_getD, List.getElem?_eq_getElem (by omega)]
  simp
theorem Nrm.new {n : Nat} {ok : pO} {mem : pM} (h : Nrm n ok mem) (hn : n < 133) : Nrm (n + 1) (okZ ok (n + 1)) (zr mem (n + 1)) := by
  obtain ⟨h1, h2, h3, h4, h5⟩ := h
  refine ⟨fun b j => ?_, fun b j hb1 hb2 hc hf ho => ?_, fun b j hb1 hb2 hc ho => ?_, fun b j hb1 hb2 hc hf => ?_, by omega⟩
  · unfold zr
    by_cases e : b = n + 1
    · rw [if_pos e]; omega
    · rw [if_neg e]; exact h1 b j
  · unfold okZ at ho
    by_cases e : b = n + 1
    · rw [if_pos e] at ho; cases ho
    · rw [if_neg e] at ho
      exact Nat.le_succ_of_le (h2 b j hb1 (by omega) hc hf ho)
  · unfold okZ at ho
    by_cases e : b = n + 1
    · rw [if_pos e] at ho; cases ho
    · rw [if_neg e] at ho
      exact Nat.le_succ_of_le (h3 b j hb1 (by omega) hc ho)
  · unfold zr
    by_cases e : b = n + 1
    · rw [if_pos e]; exact Nat.zero_le _
    · rw [if_neg e]
      exact Nat.le_succ_of_le (h4 b j hb1 (by omega) hc hf)
/-- a new cell: the addresses, the world behind it -/
theorem new_go {p : Program} {l : Launch} {e : Env} {R : Room} {s : State} {m : MethodId} {args : Array Value} {below : List Frame} {meth : Method} {c : Code} {Z : State → Prop} {E : pE} {ad0 ad : Nat → Nat} {lsr : Array Slot} {pc' : Nat}
    (C : pC mi d nf n0 Q p l e R s m args below meth c Z E ad0) (hN : Nrm n ok mem) (hs : ad 1001 = e1 E ∧ ad 1002 = e2 E) (hv : lv_has lsr (mL mi) (trL ad ls)) (h0 : n0 ≤ n) (hnf : n + 1 ≤ nf) (hn : n < 133) (hag : ∀ a, (a ≤ n0 ∨ nf < a) → ad a = ad0 a)
    (hl1 : ∀ q ∈ ls, nrf n (n + 1) q.2) (hl2 : ∀ v ∈ st, nrf n (n + 1) v) (kk : PW mi d nf n0 Q pc' ls (vr (n + 1) :: st) (n + 1) (okZ ok (n + 1)) (zr mem (n + 1)))
    (q : Nat) (H1 : Heap) (locs1 : List Loc) (ce : va_E) (hce : ∀ ad' : Nat → Nat, reE E ad' (okZ ok (n + 1)) (zr mem (n + 1)) (n + 1) = ce) (hK : va_K (eD E) vwCl (pTy E) s) (hP1 : va_P (eD E) vwCl (wsL E ad n ok mem ++ [(q, ce)]) H1) (hD1 : va_D (pA E) (wsL E ad n ok mem ++ [(q, ce)])) (hS1 : va_S (pA E) s.heap H1 locs1) :
    W p l e R s m args below meth c H1 locs1 (n - n0 + 1) (sS n - sS n0 + ln (n + 1)) Z (F0 m pc' lsr (.ref q :: st.map (tr ad))) := by
  obtain ⟨ad', had⟩ : ∃ ad' : Nat → Nat, ad' = fun b => if b = n + 1 then q else ad b := ⟨_, rfl⟩
  have hq : ad' (n + 1) = q := by rw [had]; exact if_pos rfl
  have hag2 : ∀ a, (a ≤ n ∨ n + 1 < a) → ad' a = ad a := fun a ha => by rw [had]; exact if_neg (by omega)
  have hpush := wsL_push E ad ad' (n := n) ok (okZ ok (n + 1)) mem (zr mem (n + 1)) (fun b hb1 hb2 => by
    refine ⟨hag2 b (Or.inl hb2), ?_⟩
    rw [reE_mem (ok := ok) (mem := mem) (by funext j; unfold zr; rw [if_neg (by omega)]) (by funext j; unfold okZ; rw [if_neg (by omega)])]
    exact reE_same hag2 hN hb1 hb2)
  rw [hce, hq] at hpush
  rw [hpush] at hP1 hD1
  rw [← trL_map hag2 hl1] at hv
  have h2 := kk p l e R s m args below meth c Z E ad0 H1 locs1 ad' lsr C ⟨hP1, hK, hD1, hN.new hn, by rw [hag2 _ (by omega)]; exact hs.1, by rw [hag2 _ (by omega)]; exact hs.2⟩ hS1 hv (by omega) hnf (fun a ha => by rw [hag2 a (by omega)]; exact hag a ha)
  have hs1 := sS_mono h0
  rw [List.map_cons, tr_ref (by omega), hq, tr_map hag2 hl2, sS_next hn] at h2
  rw [show n - n0 + 1 = n + 1 - n0 by omega, show sS n - sS n0 + ln (n + 1) = sS n + ln (n + 1) - sS n0 by omega]
  exact h2
theorem pw_new (hd : decode (mB mi) pc = .ok (.new idx, 3)) (hc : clsOk ci C0 T N ty) (hw1 : Cond.classLink (mY mi).cls idx C0 ∈ lw_gd) (hw2 : Cond.instantiable C0 N ∈ lw_gd) (hw3 : Cond.initialized C0 ∈ lw_gd) (hck : ck (n + 1) = 10 + ci) (hnf : n + 1 ≤ nf) (hn : n < 133) (hl1 : ∀ q ∈ ls, nrf n (n + 1) q.2) (hl2 : ∀ v ∈ st, nrf n (n + 1) v)
    (kk : PW mi d nf n0 Q (pc + 3) ls (vr (n + 1) :: st) (n + 1) (okZ ok (n + 1)) (zr mem (n + 1))) : PW mi d nf n0 Q pc ls st n ok mem := by
  intro p l e R s m args below meth c Z E ad0 H locs ad lsr C hW hS hv h0 h1 hag
  obtain ⟨hcl, hin, hty, hnm, hln, hdv⟩ := hc
  obtain ⟨hx, hb, hmL, hown, hts, hmn, ⟨hR1, hR2, hR3, hR4⟩, hB, hSt, hlw, hfin⟩ := id C
  obtain ⟨hP, hK, hD, hN, hs⟩ := id hW
  have hs1 := sS_mono h0
  have hs2 := sS_mono hnf
  rw [sS_next hn, hln _ hck] at hs2
  obtain ⟨fs, hfs⟩ : ∃ fs : List Value, fs = (List.range N).map (fun k => if fK ci k = 2 ∨ fK ci k = 3 then Value.null else .int 0) := ⟨_, rfl⟩
  have hce : ∀ ad' : Nat → Nat, reE E ad' (okZ ok (n + 1)) (zr mem (n + 1)) (n + 1) = .inr (ci, fs) := by
    intro ad'
    rw [reE_obj hck (hln _ hck), hfs]
    congr 2
    apply List.map_congr_left
    intro k _
    unfold reF okZ zr
    by_cases q2 : fK ci k = 2
    · simp [q2]
    · by_cases q3 : fK ci k = 3
      · simp [q3, tr]
      · simp [q2, q3]
  refine va_new hx hb hts hin ty hty hown (hts _ hw1) (hts _ hw2) (hts _ hw3) hK hP hD hS (fun q h => Nat.le_trans hB h) hcl (fs := fs) (fun j hj => ?_) (by omega) (by omega) hd (fun q H1 hP1 hD1 hS1 => ?_)
  · rw [hdv j hj]
    unfold vp_V
    rw [hfs, List.getD_eq_getElem?_getD, List.getElem?_map, List.getElem?_range hj]
    rfl
  · have h9 := new_go C hN hs hv h0 hnf hn hag hl1 hl2 kk q H1 locs _ hce hK hP1 hD1 hS1
    rw [hln _ hck] at h9
    exact h9
theorem arr_same {D : va_G} {s : State} {tys : List (ClassId × FieldType)} {i j : Nat} {cA cB : ClassId} {t : FieldType} (hK : va_K D vwCl tys s) (h1 : tys[i]? = some (cA, t)) (h2 : tys[j]? = some (cB, t)) : cA = cB := by
  have r1 := (hK.2 i _ h1).2
  have r2 := (hK.2 j _ h2).2
  cases t with
  | object C =>
    obtain ⟨_, _, _, _, _, f1⟩ := r1
    obtain ⟨_, _, _, _, _, f2⟩ := r2
    exact Option.some.inj (f1.symm.trans f2)
  | _ => exact Option.some.inj (Eq.trans (Eq.symm r1) r2)
theorem pw_newI {L : Nat} {x : Int} (hx9 : x = L) (hd : decode (mB mi) pc = .ok (.newarray .int, 2)) (hw1 : Cond.arrayClass .int ∈ lw_gd) (hck : ck (n + 1) = 1) (hln : ln (n + 1) = L) (hL : L ≤ 100000) (hnf : n + 1 ≤ nf) (hn : n < 133) (hl1 : ∀ q ∈ ls, nrf n (n + 1) q.2) (hl2 : ∀ v ∈ st, nrf n (n + 1) v)
    (kk : PW mi d nf n0 Q (pc + 2) ls (vr (n + 1) :: st) (n + 1) (okZ ok (n + 1)) (zr mem (n + 1))) : PW mi d nf n0 Q pc ls (vi x :: st) n ok mem := by
  intro p l e R s m args below meth c Z E ad0 H locs ad lsr C hW hS hv h0 h1 hag
  subst hx9
  obtain ⟨hx, hb, hmL, hown, hts, hmn, ⟨hR1, hR2, hR3, hR4⟩, hB, hSt, hlw, hfin⟩ := id C
  obtain ⟨hP, hK, hD, hN, hs⟩ := id hW
  have hs1 := sS_mono h0
  have hs2 := sS_mono hnf
  rw [sS_next hn, hln] at hs2
  have hce : ∀ ad' : Nat → Nat, reE E ad' (okZ ok (n + 1)) (zr mem (n + 1)) (n + 1) = .inl (eI E, L, .inl (fun _ => 0)) := by
    intro ad'
    unfold reE
    rw [if_pos hck, hln]
    unfold zr
    simp only [if_true]
    rfl
  refine va_newa (atype := .int) hx hb (hts _ hw1) rfl hK hP hD hS (fun q h => Nat.le_trans hB h) (a0 := (L, .inl (fun _ => 0))) (N' := L) (fun cA => rfl) ?_ ?_ (by show L * 4 ≤ 536870912; omega) (by omega) (by omega) hd (fun q cA H1 hK1 hP1 hD1 hS1 => ?_)
  · rw [o_nI (by omega)]; exact nI_pos (by omega)
  · rw [o_cl (by omega) (by omega)]; omega
  · have ecA : cA = eI E := arr_same hK1 (i := 3) (j := 0) rfl rfl
    subst ecA
    have h9 := new_go C hN hs hv h0 hnf hn hag hl1 hl2 kk q H1 locs _ hce hK hP1 hD1 hS1
    rw [hln] at h9
    exact h9
theorem pw_newZ {L : Nat} {x : Int} (hx9 : x = L) (hd : decode (mB mi) pc = .ok (.newarray .boolean, 2)) (hw1 : Cond.arrayClass .boolean ∈ lw_gd) (hck : ck (n + 1) = 2) (hln : ln (n + 1) = L) (hL : L ≤ 100000) (hnf : n + 1 ≤ nf) (hn : n < 133) (hl1 : ∀ q ∈ ls, nrf n (n + 1) q.2) (hl2 : ∀ v ∈ st, nrf n (n + 1) v)
    (kk : PW mi d nf n0 Q (pc + 2) ls (vr (n + 1) :: st) (n + 1) (okZ ok (n + 1)) (zr mem (n + 1))) : PW mi d nf n0 Q pc ls (vi x :: st) n ok mem := by
  intro p l e R s m args below meth c Z E ad0 H locs ad lsr C hW hS hv h0 h1 hag
  subst hx9
  obtain ⟨hx, hb, hmL, hown, hts, hmn, ⟨hR1, hR2, hR3, hR4⟩, hB, hSt, hlw, hfin⟩ := id C
  obtain ⟨hP, hK, hD, hN, hs⟩ := id hW
  have hs1 := sS_mono h0
  have hs2 := sS_mono hnf
  rw [sS_next hn, hln] at hs2
  have hce : ∀ ad' : Nat → Nat, reE E ad' (okZ ok (n + 1)) (zr mem (n + 1)) (n + 1) = .inl (eZ E, L, .inl (fun _ => 0)) := by
    intro ad'
    unfold reE
    rw [if_neg (by omega), if_pos hck, hln]
    unfold zr
    simp only [if_true]
    rfl
  refine va_newa (atype := .boolean) hx hb (hts _ hw1) rfl hK hP hD hS (fun q h => Nat.le_trans hB h) (a0 := (L, .inl (fun _ => 0))) (N' := L) (fun cA => rfl) ?_ ?_ (by show L * 1 ≤ 536870912; omega) (by omega) (by omega) hd (fun q cA H1 hK1 hP1 hD1 hS1 => ?_)
  · rw [o_nI (by omega)]; exact nI_pos (by omega)
  · rw [o_cl (by omega) (by omega)]; omega
  · have ecA : cA = eZ E := arr_same hK1 (i := 3) (j := 1) rfl rfl
    subst ecA
    have h9 := new_go C hN hs hv h0 hnf hn hag hl1 hl2 kk q H1 locs _ hce hK hP1 hD1 hS1
    rw [hln] at h9
    exact h9
theorem pw_newC {L : Nat} {x : Int} (hx9 : x = L) (hd : decode (mB mi) pc = .ok (.anewarray idx, 3)) (hw0 : Cond.classLink (mY mi).cls idx "PuzzleChests$Chest" ∈ lw_gd) (hck : ck (n + 1) = 3) (hln : ln (n + 1) = L) (hL : L ≤ 100000) (hnf : n + 1 ≤ nf) (hn : n < 133) (hl1 : ∀ q ∈ ls, nrf n (n + 1) q.2) (hl2 : ∀ v ∈ st, nrf n (n + 1) v)
    (kk : PW mi d nf n0 Q (pc + 3) ls (vr (n + 1) :: st) (n + 1) (okZ ok (n + 1)) (zr mem (n + 1))) : PW mi d nf n0 Q pc ls (vi x :: st) n ok mem := by
  intro p l e R s m args below meth c Z E ad0 H locs ad lsr C hW hS hv h0 h1 hag
  subst hx9
  obtain ⟨hx, hb, hmL, hown, hts, hmn, ⟨hR1, hR2, hR3, hR4⟩, hB, hSt, hlw, hfin⟩ := id C
  obtain ⟨hP, hK, hD, hN, hs⟩ := id hW
  have hs1 := sS_mono h0
  have hs2 := sS_mono hnf
  rw [sS_next hn, hln] at hs2
  have hce : ∀ ad' : Nat → Nat, reE E ad' (okZ ok (n + 1)) (zr mem (n + 1)) (n + 1) = .inl (eC E, L, .inr (.inr (.inr (.inr (fun _ => none))))) := by
    intro ad'
    unfold reE
    rw [if_neg (by omega), if_neg (by omega), if_pos hck, hln]
    unfold okZ
    simp
  refine va_newq hx hb hown (hts _ hw0) hSt.2.2.2.2.2 hK hP hD hS (fun q h => Nat.le_trans hB h) (N' := L) ?_ ?_ (by omega) (by omega) (by omega) hd (fun q cA H1 hK1 hP1 hD1 hS1 => ?_)
  · rw [o_nI (by omega)]; exact nI_pos (by omega)
  · rw [o_cl (by omega) (by omega)]; omega
  · have ecA : cA = eC E := arr_same hK1 (i := 3) (j := 2) rfl rfl
    subst ecA
    have h9 := new_go C hN hs hv h0 hnf hn hag hl1 hl2 kk q H1 locs _ hce hK hP1 hD1 hS1
    rw [hln] at h9
    exact h9
/-! statics -/
theorem pw_getTel (hd : decode (mB mi) pc = .ok (.getstatic idx, 3)) (hw : Cond.fieldLink (mY mi).cls idx "PuzzleChests" "TELLING" "[I" ∈ lw_gd ∨ ∃ host, Cond.fieldLinkNest (mY mi).cls idx "PuzzleChests" "TELLING" "[I" host ∈ lw_tbl) (kk : PW mi d nf n0 Q (pc + 3) ls (vr 1001 :: st) n ok mem) : PW mi d nf n0 Q pc ls st n ok mem := by
  intro p l e R s m args below meth c Z E ad0 H locs ad lsr C hW hS hv h0 h1 hag
  obtain ⟨hx, hb, hmL, hown, hts, hmn, hR, hB, hSt, hlw, hfin⟩ := id C
  have h2 := kk p l e R s m args below meth c Z E ad0 H locs ad lsr C hW hS hv h0 h1 hag
  rw [List.map_cons, tr_ref (by omega), hW.2.2.2.2.1] at h2
  rcases hw with hw | ⟨host, hw⟩
  · exact va_gets hx hb hSt.1 hS hown (hts _ hw) (fun _ h => h) hd h2
  · exact va_getsN hx hb hSt.1 hS hown (va_Nw.use rfl (hSt.2.2.2.2.1 _ hw rfl)) (fun _ h => h) hd h2
theorem pw_getDrw (hd : decode (mB mi) pc = .ok (.getstatic idx, 3)) (hw : Cond.fieldLink (mY mi).cls idx "PuzzleChests$Draws" "SEATS_DRAWN" "[I" ∈ lw_gd) (kk : PW mi d nf n0 Q (pc + 3) ls (vr 1002 :: st) n ok mem) : PW mi d nf n0 Q pc ls st n ok mem := by
  intro p l e R s m args below meth c Z E ad0 H locs ad lsr C hW hS hv h0 h1 hag
  obtain ⟨hx, hb, hmL, hown, hts, hmn, hR, hB, hSt, hlw, hfin⟩ := id C
  have h2 := kk p l e R s m args below meth c Z E ad0 H locs ad lsr C hW hS hv h0 h1 hag
  rw [List.map_cons, tr_ref (by omega), hW.2.2.2.2.2] at h2
  exact va_gets hx hb hSt.2.2.1 hS hown (hts _ hw) (fun _ h => h) hd h2
theorem pw_telld {i : Int} (hd : decode (mB mi) pc = .ok (.iaload, 1)) (hi1 : 0 ≤ i) (hi2 : i < 6) (kk : PW mi d nf n0 Q (pc + 1) ls (vi (sTel i) :: st) n ok mem) : PW mi d nf n0 Q pc ls (vi i :: vr 1001 :: st) n ok mem := by
  intro p l e R s m args below meth c Z E ad0 H locs ad lsr C hW hS hv h0 h1 hag
  obtain ⟨hx, hb, hmL, hown, hts, hmn, hR, hB, hSt, hlw, hfin⟩ := id C
  rw [List.map_cons, List.map_cons, tr_ref (by omega), hW.2.2.2.2.1]
  exact va_ti hx hb hSt.2.1 hS (o_vin hi1 hi2 (by omega)) (by rw [o_cl hi1 (by omega), Int.toNat_of_nonneg hi1]; rfl) hd (kk p l e R s m args below meth c Z E ad0 H locs ad lsr C hW hS hv h0 h1 hag)
theorem pw_drwld {i : Int} (hd : decode (mB mi) pc = .ok (.iaload, 1)) (hi1 : 0 ≤ i) (hi2 : i < 4) (kk : PW mi d nf n0 Q (pc + 1) ls (vi (sDrw i) :: st) n ok mem) : PW mi d nf n0 Q pc ls (vi i :: vr 1002 :: st) n ok mem := by
  intro p l e R s m args below meth c Z E ad0 H locs ad lsr C hW hS hv h0 h1 hag
  obtain ⟨hx, hb, hmL, hown, hts, hmn, hR, hB, hSt, hlw, hfin⟩ := id C
  rw [List.map_cons, List.map_cons, tr_ref (by omega), hW.2.2.2.2.2]
  exact va_ti hx hb hSt.2.2.2.1 hS (o_vin hi1 hi2 (by omega)) (by rw [o_cl hi1 (by omega), Int.toNat_of_nonneg hi1]; rfl) hd (kk p l e R s m args below meth c Z E ad0 H locs ad lsr C hW hS hv h0 h1 hag)
theorem pw_drwlen (hd : decode (mB mi) pc = .ok (.arraylength, 1)) (kk : PW mi d nf n0 Q (pc + 1) ls (vi 4 :: st) n ok mem) : PW mi d nf n0 Q pc ls (vr 1002 :: st) n ok mem := by
  intro p l e R s m args below meth c Z E ad0 H locs ad lsr C hW hS hv h0 h1 hag
  obtain ⟨hx, hb, hmL, hown, hts, hmn, hR, hB, hSt, hlw, hfin⟩ := id C
  rw [List.map_cons, tr_ref (by omega), hW.2.2.2.2.2]
  exact va_tlen hx hb hSt.2.2.2.1 hS rfl hd (kk p l e R s m args below meth c Z E ad0 H locs ad lsr C hW hS hv h0 h1 hag)
/-! what the JDK does -/
theorem pw_objInit (hd : decode (mB mi) pc = .ok (.invokespecial idx, 3)) (hw : Cond.methodLink (mY mi).cls idx Lib.objectInit ∈ lw_gd) (hw2 : Cond.instanceMethod Lib.objectInit ∈ lw_gd) (hw3 : Cond.code Lib.objectInit ⟨#[0xb1]⟩ 1 none ∈ lw_gd) (ha : 1 ≤ a) (hst : (st.map wct).sum ≤ 8) (hdd : 1 ≤ d) (kk : PW mi d nf n0 Q (pc + 3) ls st n ok mem) : PW mi d nf n0 Q pc ls (vr a :: st) n ok mem := by
  intro p l e R s m args below meth c Z E ad0 H locs ad lsr C hW hS hv h0 h1 hag
  obtain ⟨hx, hb, hmL, hown, hts, hmn, ⟨hR1, hR2, hR3, hR4⟩, hB, hSt, hlw, hfin⟩ := id C
  rw [List.map_cons, tr_ref ha]
  have hroom := lv_room (m := m) (pc := pc) (ls := lsr) (rest := .ref (ad a) :: st.map (tr ad)) (st := st.map (tr ad)) (by rw [wct_map]; exact hst)
  exact W.objInit hx hb hown (hts _ hw) (hts _ hw2) (hts _ hw3) rfl (by rw [hmL]; exact hv.1) rfl hd (by omega) (by omega) (kk p l e R s m args below meth c Z E ad0 H locs ad lsr C hW hS hv h0 h1 hag)
theorem pw_min {x y : Int} (hd : decode (mB mi) pc = .ok (.invokestatic idx, 3)) (hw : Cond.methodLink (mY mi).cls idx Lib.Math.min.name ∈ lw_gd) (hw2 : Cond.static Lib.Math.min.name ∈ lw_gd) (hw3 : Cond.initialized "java/lang/Math" ∈ lw_gd) (hw4 : Cond.code Lib.Math.min.name Lib.Math.min.code 2 (some .int) ∈ lw_gd) (hst : (st.map wct).sum ≤ 8) (hdd : 1 ≤ d) (hx9 : -2147483648 ≤ x ∧ x ≤ 2147483647) (hy9 : -2147483648 ≤ y ∧ y ≤ 2147483647) (kk : PW mi d nf n0 Q (pc + 3) ls (vi (if y < x then y else x) :: st) n ok mem) : PW mi d nf n0 Q pc ls (vi y :: vi x :: st) n ok mem := by
  intro p l e R s m args below meth c Z E ad0 H locs ad lsr C hW hS hv h0 h1 hag
  obtain ⟨hx, hb, hmL, hown, hts, hmn, ⟨hR1, hR2, hR3, hR4⟩, hB, hSt, hlw, hfin⟩ := id C
  have hs1 := sS_mono h0
  have hs2 := sS_mono h1
  refine va_mmin hx hb (by rw [hmL]; exact hv.1.symm) hown (hts _ hw) (hts _ hw2) (hts _ hw3) (hts _ hw4) (by omega) (by have := wct_map ad st; rw [this]; omega) (by omega) (by omega) hd ?_
  have h2 := kk p l e R s m args below meth c Z E ad0 H locs ad lsr C hW hS hv h0 h1 hag
  have e1 : (if Int32.ofInt y < Int32.ofInt x then Int32.ofInt y else Int32.ofInt x) = Int32.ofInt (if y < x then y else x) := by
    by_cases q : y < x
    · rw [if_pos q, if_pos ((o_lt hy9 hx9).mpr q)]
    · rw [if_neg q, if_neg (fun z => q ((o_lt hy9 hx9).mp z))]
  rw [e1]
  exact h2
/-- System.arraycopy of ints -/
def cpM (mem : pM) (a0 : Nat) (sp : Int) (a1 : Nat) (dp nn : Int) : pM := fun b j => if b = a1 ∧ dp ≤ j ∧ j < dp + nn then mem a0 (sp + (j - dp)) else mem b j
theorem pw_copy {a0 a1 L0 L1 : Nat} {sp dp nn : Int} (hd : decode (mB mi) pc = .ok (.invokestatic idx, 3)) (hw : Cond.methodLink (mY mi).cls idx arraycopyName ∈ lw_gd) (hw2 : Cond.native arraycopyName ∈ lw_gd) (hw3 : Cond.static arraycopyName ∈ lw_gd) (hw4 : Cond.initialized "java/lang/System" ∈ lw_gd) (hst : (st.map wct).sum ≤ 8) (hdd : 1 ≤ d) (hA0 : Ar n a0 L0) (hA1 : Ar n a1 L1) (h3 : 0 ≤ sp) (h4 : 0 ≤ dp) (h5 : 0 ≤ nn) (h6 : sp + nn ≤ L0) (h7 : dp + nn ≤ L1)
    (kk : PW mi d nf n0 Q (pc + 3) ls st n ok (cpM mem a0 sp a1 dp nn)) : PW mi d nf n0 Q pc ls (vi nn :: vi dp :: vr a1 :: vi sp :: vr a0 :: st) n ok mem := by
  intro p l e R s m args below meth c Z E ad0 H locs ad lsr C hW hS hv h0 h1 hag
  obtain ⟨hx, hb, hmL, hown, hts, hmn, ⟨hR1, hR2, hR3, hR4⟩, hB, hSt, hlw, hfin⟩ := id C
  obtain ⟨hP, hK, hD, hN, hs⟩ := id hW
  obtain ⟨ha1, ha2, hck, hln, hL⟩ := hA0
  obtain ⟨hb1, hb2, hckb, hlnb, hLb⟩ := hA1
  have hg0 := wsL_get E ad ok mem ha1 ha2
  have hg1 := wsL_get E ad ok mem hb1 hb2
  have he0 : reE E ad ok mem a0 = .inl (eI E, L0, .inl (fun j => Int32.ofInt (mem a0 j))) := by unfold reE; rw [if_pos hck, hln]
  have he1 : ∀ mem : pM, reE E ad ok mem a1 = .inl (eI E, L1, .inl (fun j => Int32.ofInt (mem a1 j))) := fun mem => by unfold reE; rw [if_pos hckb, hlnb]
  rw [he0] at hg0
  rw [he1] at hg1
  have hset := wsL_set E ad (n := n) ok ok mem (cpM mem a0 sp a1 dp nn) hb1 hb2 (fun b hb _ _ => reE_mem (by funext j; unfold cpM; rw [if_neg (fun z => hb z.1)]) rfl)
  have hcp : va_cpy (fun j => Int32.ofInt (mem a0 j)) (fun j => Int32.ofInt (mem a1 j)) sp.toNat dp.toNat nn.toNat = (fun j : Nat => Int32.ofInt (cpM mem a0 sp a1 dp nn a1 j)) := by
    funext j
    unfold va_cpy cpM
    by_cases q : dp.toNat ≤ j ∧ j < dp.toNat + nn.toNat
    · rw [if_pos q, if_pos ⟨rfl, by omega, by omega⟩]
      have e9 : ((sp.toNat + (j - dp.toNat) : Nat) : Int) = sp + ((j : Int) - dp) := by omega
      exact congrArg (fun z => Int32.ofInt (mem a0 z)) e9
    · rw [if_neg q, if_neg (fun z => q ⟨by omega, by omega⟩)]
  have hNr : Nrm n ok (cpM mem a0 sp a1 dp nn) := by
    obtain ⟨g1, g2, g3, g4, g5⟩ := hN
    refine ⟨fun b j => ?_, g2, g3, fun b j q1 q2 q3 q4 => ?_, g5⟩
    · unfold cpM
      by_cases q : b = a1 ∧ dp ≤ j ∧ j < dp + nn
      · rw [if_pos q]; exact g1 _ _
      · rw [if_neg q]; exact g1 _ _
    · unfold cpM
      rw [if_neg (fun z => by rw [z.1] at q3; omega)]
      exact g4 b j q1 q2 q3 q4
  rw [List.map_cons, List.map_cons, List.map_cons, List.map_cons, List.map_cons, tr_ref ha1, tr_ref hb1]
  refine va_copyi hx hb (by rw [hmL]; exact hv.1.symm) hown (hts _ hw) (hts _ hw2) (hts _ hw3) (hts _ hw4) hK hP hD hS (a0 - 1) (a1 - 1) 0 0 hg0 hg1 rfl rfl rfl ?_ ?_ ?_ ?_ ?_ (fun _ _ => rfl) (by omega) ?_ hd (fun H1 locs1 hP1 hD1 hS1 => ?_)
  · rw [o_nI h3]; exact nI_pos (by omega)
  · rw [o_nI h4]; exact nI_pos (by omega)
  · rw [o_nI h5]; exact nI_pos (by omega)
  · rw [o_cl h3 (by omega), o_cl h5 (by omega)]; omega
  · rw [o_cl h4 (by omega), o_cl h5 (by omega)]; omega
  · have := wct_map ad st
    have h9 : nativeFrameWords "java/lang/System" "arraycopy" 5 = 7 := by decide
    rw [this, h9]; omega
  · rw [o_cl h3 (by omega), o_cl h4 (by omega), o_cl h5 (by omega), hcp, ← he1, hset] at hP1 hD1
    exact kk p l e R s m args below meth c Z E ad0 H1 locs1 ad lsr C ⟨hP1, hK, hD1, hNr, hs⟩ hS1 hv h0 h1 hag
/-! the law's script -/
theorem pw_sld {i : Int} (hlaw : (mY mi).cls = "PuzzleChestsLaw") (hd : decode (mB mi) pc = .ok (.iaload, 1)) (hi1 : 0 ≤ i) (hi2 : i < mS mi) (kk : PW mi d nf n0 Q (pc + 1) ls (vi (mX mi i.toNat) :: st) n ok mem) : PW mi d nf n0 Q pc ls (vi i :: vr 1003 :: st) n ok mem := by
  intro p l e R s m args below meth c Z E ad0 H locs ad lsr C hW hS hv h0 h1 hag
  obtain ⟨hx, hb, hmL, hown, hts, hmn, hR, hB, hSt, hlw, hfin⟩ := id C
  obtain ⟨hX, hbl, hbA, hLs, hnf⟩ := hlw hlaw
  rw [List.map_cons, List.map_cons, tr_ref (by omega), hag 1003 (by omega)]
  refine va_sld hx hb hX hbl hbA hS (o_vin hi1 hi2 hLs) hd ?_
  rw [o_cl hi1 (by omega)]
  exact kk p l e R s m args below meth c Z E ad0 H locs ad lsr C hW hS hv h0 h1 hag
theorem pw_slen (hlaw : (mY mi).cls = "PuzzleChestsLaw") (hd : decode (mB mi) pc = .ok (.arraylength, 1)) (kk : PW mi d nf n0 Q (pc + 1) ls (vi (mS mi) :: st) n ok mem) : PW mi d nf n0 Q pc ls (vr 1003 :: st) n ok mem := by
  intro p l e R s m args below meth c Z E ad0 H locs ad lsr C hW hS hv h0 h1 hag
  obtain ⟨hx, hb, hmL, hown, hts, hmn, hR, hB, hSt, hlw, hfin⟩ := id C
  obtain ⟨hX, hbl, hbA, hLs, hnf⟩ := hlw hlaw
  rw [List.map_cons, tr_ref (by omega), hag 1003 (by omega)]
  refine va_slen hx hb hX hbl hbA hS hd ?_
  have h2 := kk p l e R s m args below meth c Z E ad0 H locs ad lsr C hW hS hv h0 h1 hag
  rw [← Int32.ofInt_eq_ofNat]
  exact h2
end PN
/-! ===== objects that are full: all their fixed references are set ===== -/
def Of (n : Nat) (ok : pO) (ci a : Nat) : Prop := Ob n ci a ∧ ∀ k, ok a k = true
theorem Of.o {n : Nat} {ok : pO} {ci a : Nat} (h : Of n ok ci a) : Ob n ci a := h.1
section PX
variable {mi : MI} {d nf n0 : Nat} {Q : pQt} {pc : Nat} {ls : List (Nat × pV)} {st : List pV} {n : Nat} {ok : pO} {mem : pM}
variable {ci N : Nat} {C0 : String} {T : u_T} {ty : Nat → FieldType} {a idx : Nat}
theorem pw_gI (k : Nat) (j : Int) (hj : (k : Int) = j) (hd : decode (mB mi) pc = .ok (.getfield idx, 3)) (hc : clsOk ci C0 T N ty) (hO : Of n ok ci a) (hk : k < N) (hw : Cond.fieldLink (mY mi).cls idx (T k).1 (T k).2.1 (T k).2.2.1 ∈ lw_gd) (hf : fK ci k < 2) (kk : -2147483648 ≤ mem a j ∧ mem a j ≤ 2147483647 → PW mi d nf n0 Q (pc + 3) ls (vi (mem a j) :: st) n ok mem) : PW mi d nf n0 Q pc ls (vr a :: st) n ok mem := by subst hj; exact pw_getI k hd hc hO.1 hk hw hf kk
theorem pw_gR (k t : Nat) (hd : decode (mB mi) pc = .ok (.getfield idx, 3)) (hc : clsOk ci C0 T N ty) (hO : Of n ok ci a) (hk : k < N) (hw : Cond.fieldLink (mY mi).cls idx (T k).1 (T k).2.1 (T k).2.2.1 ∈ lw_gd) (hf : fK ci k = 2) (ht : tg ci k a = t) (kk : PW mi d nf n0 Q (pc + 3) ls (vr t :: st) n ok mem) : PW mi d nf n0 Q pc ls (vr a :: st) n ok mem := pw_getR k t hd hc hO.1 hk hw hf (hO.2 k) ht kk
theorem pw_gV (k : Nat) (j : Int) (t : Nat) (hj : (k : Int) = j) (hd : decode (mB mi) pc = .ok (.getfield idx, 3)) (hc : clsOk ci C0 T N ty) (hO : Of n ok ci a) (hk : k < N) (hw : Cond.fieldLink (mY mi).cls idx (T k).1 (T k).2.1 (T k).2.2.1 ∈ lw_gd) (hf : fK ci k = 3) (ht : mem a j = (t : Int)) (kk : PW mi d nf n0 Q (pc + 3) ls (vr t :: st) n ok mem) : PW mi d nf n0 Q pc ls (vr a :: st) n ok mem := by subst hj; exact pw_getV k t hd hc hO.1 hk hw hf ht kk
theorem pw_pI {x : Int} (k : Nat) (j : Int) (hj : (k : Int) = j) (hd : decode (mB mi) pc = .ok (.putfield idx, 3)) (hc : clsOk ci C0 T N ty) (hO : Of n ok ci a) (hk : k < N) (hw : Cond.fieldLink (mY mi).cls idx (T k).1 (T k).2.1 (T k).2.2.1 ∈ lw_gd) (hfin : (T k).2.2.2 = false) (hty : ty k = .int) (hf : fK ci k = 0) (hx : -2147483648 ≤ x ∧ x ≤ 2147483647) (kk : PW mi d nf n0 Q (pc + 3) ls st n ok (wr mem a j x)) : PW mi d nf n0 Q pc ls (vi x :: vr a :: st) n ok mem := by subst hj; exact pw_putI k hd hc hO.1 hk hw hfin hty hf hx kk
theorem pw_pIz {x : Int} (k : Nat) (j : Int) (hj : (k : Int) = j) (hd : decode (mB mi) pc = .ok (.putfield idx, 3)) (hc : clsOk ci C0 T N ty) (hO : Of n ok ci a) (hk : k < N) (hw : Cond.fieldLink (mY mi).cls idx (T k).1 (T k).2.1 (T k).2.2.1 ∈ lw_gd) (hfin : (T k).2.2.2 = false) (hty : ty k = .int) (hf : fK ci k = 0) (kk : PW mi d nf n0 Q (pc + 3) ls st n ok (wr mem a j (nz x))) : PW mi d nf n0 Q pc ls (vi x :: vr a :: st) n ok mem := by subst hj; exact pw_putIz k hd hc hO.1 hk hw hfin hty hf kk
theorem pw_pZ {x : Int} (k : Nat) (j : Int) (hj : (k : Int) = j) (hd : decode (mB mi) pc = .ok (.putfield idx, 3)) (hc : clsOk ci C0 T N ty) (hO : Of n ok ci a) (hk : k < N) (hw : Cond.fieldLink (mY mi).cls idx (T k).1 (T k).2.1 (T k).2.2.1 ∈ lw_gd) (hfin : (T k).2.2.2 = false) (hty : ty k = .boolean) (hf : fK ci k = 1) (hx : x = 0 ∨ x = 1) (kk : PW mi d nf n0 Q (pc + 3) ls st n ok (wr mem a j x)) : PW mi d nf n0 Q pc ls (vi x :: vr a :: st) n ok mem := by subst hj; exact pw_putZ k hd hc hO.1 hk hw hfin hty hf hx kk
theorem pw_pV {t : Nat} (k : Nat) (j : Int) (hj : (k : Int) = j) (hd : decode (mB mi) pc = .ok (.putfield idx, 3)) (hc : clsOk ci C0 T N ty) (hO : Of n ok ci a) (hk : k < N) (hw : Cond.fieldLink (mY mi).cls idx (T k).1 (T k).2.1 (T k).2.2.1 ∈ lw_gd) (hfin : (T k).2.2.2 = false) (hty : (∃ C, ty k = .object C) ∨ ∃ u, ty k = .array u) (hf : fK ci k = 3) (ht1 : 1 ≤ t) (ht2 : t ≤ n) (hn : n ≤ 133) (kk : PW mi d nf n0 Q (pc + 3) ls st n ok (wr mem a j t)) : PW mi d nf n0 Q pc ls (vr t :: vr a :: st) n ok mem := by subst hj; exact pw_putV k hd hc hO.1 hk hw hfin hty hf ht1 ht2 hn kk
end PX
