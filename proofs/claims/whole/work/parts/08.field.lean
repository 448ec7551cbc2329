/-! ===== rows of fields, of new cells, of arrays of chests ===== -/
def clsOk (ci : Nat) (C : String) (T : u_T) (N : Nat) (ty : Nat → FieldType) : Prop :=
  vwCl[ci]? = some (C, T, N) ∧ (∀ w ∈ u_ws C T N, w ∈ lw_gd) ∧ (∀ k, k < N → parseFieldDescriptor (T k).2.2.1 = some (ty k)) ∧ (∀ a, a < N → ∀ b, b < N → a ≠ b → (T a).2.1 ≠ (T b).2.1) ∧
  (∀ a, ck a = 10 + ci → ln a = N) ∧ (∀ j, j < N → defaultValue (ty j) = if fK ci j = 2 ∨ fK ci j = 3 then .null else .int 0)
theorem reE_obj {E : pE} {ad : Nat → Nat} {ok : pO} {mem : pM} {ci a N : Nat} (hck : ck a = 10 + ci) (hln : ln a = N) : reE E ad ok mem a = .inr (ci, (List.range N).map (fun k => reF ad ok mem ci a k)) := by
  unfold reE
  rw [if_neg (by omega), if_neg (by omega), if_neg (by omega), hln, show ck a - 10 = ci by omega]
theorem fs_get {ad : Nat → Nat} {ok : pO} {mem : pM} {ci a N k : Nat} (hk : k < N) : ((List.range N).map (fun k => reF ad ok mem ci a k))[k]? = some (reF ad ok mem ci a k) := by
  rw [List.getElem?_map, List.getElem?_range hk]; rfl
theorem fs_set {ad : Nat → Nat} {ok ok' : pO} {mem mem' : pM} {ci a N k : Nat} {v : Value} (hv : reF ad ok' mem' ci a k = v) (ho : ∀ j, j ≠ k → reF ad ok' mem' ci a j = reF ad ok mem ci a j) :
    ((List.range N).map (fun k => reF ad ok mem ci a k)).set k v = (List.range N).map (fun k => reF ad ok' mem' ci a k) := by
  apply List.ext_getElem?
  intro i
  by_cases hi : i < N
  · by_cases hik : i = k
    · subst hik
      rw [List.getElem?_set_self (by simpa using hi), fs_get hi, hv]
    · rw [List.getElem?_set_ne (Ne.symm hik), fs_get hi, fs_get hi, ho i hik]
  · rw [List.getElem?_eq_none (by simp; omega), List.getElem?_eq_none (by simp; omega)]
section PF
variable {mi : MI} {d nf n0 : Nat} {Q : pQt} {pc : Nat} {ls : List (Nat × pV)} {st : List pV} {n : Nat} {ok : pO} {mem : pM}
variable {ci N : Nat} {C0 : String} {T : u_T} {ty : Nat → FieldType} {a idx : Nat}
/-- any field, as its real value is -/
theorem pw_getAny (k : Nat) (hd : decode (mB mi) pc = .ok (.getfield idx, 3)) (hc : clsOk ci C0 T N ty) (hO : Ob n ci a) (hk : k < N) (hw : Cond.fieldLink (mY mi).cls idx (T k).1 (T k).2.1 (T k).2.2.1 ∈ lw_gd) (v : pV) (hv : Nrm n ok mem → ∀ ad, reF ad ok mem ci a k = tr ad v) (kk : (∀ k, -2147483648 ≤ mem a k ∧ mem a k ≤ 2147483647) → PW mi d nf n0 Q (pc + 3) ls (v :: st) n ok mem) : PW mi d nf n0 Q pc ls (vr a :: st) n ok mem := by
  intro p l e R s m args below meth c Z E ad0 H locs ad lsr C hW hS hv' h0 h1 hag
  obtain ⟨ha1, ha2, hck⟩ := hO
  obtain ⟨hcl, hin, hty, hnm, hln, -⟩ := hc
  obtain ⟨hP, hK, hD, hN, -⟩ := id hW
  have hg := wsL_get E ad ok mem ha1 ha2
  rw [reE_obj hck (hln a hck)] at hg
  rw [List.map_cons, tr_ref ha1]
  refine va_get C.1 C.2.1 C.2.2.2.2.1 hin C.2.2.2.1 hK hP (a - 1) hg hcl k hk (C.2.2.2.2.1 _ hw) (fun _ h => h) (fs_get hk) hd ?_
  rw [hv hN ad]
  exact kk (hN.1 a) p l e R s m args below meth c Z E ad0 H locs ad lsr C hW hS hv' h0 h1 hag
theorem pw_getI (k : Nat) (hd : decode (mB mi) pc = .ok (.getfield idx, 3)) (hc : clsOk ci C0 T N ty) (hO : Ob n ci a) (hk : k < N) (hw : Cond.fieldLink (mY mi).cls idx (T k).1 (T k).2.1 (T k).2.2.1 ∈ lw_gd) (hf : fK ci k < 2) (kk : -2147483648 ≤ mem a k ∧ mem a k ≤ 2147483647 → PW mi d nf n0 Q (pc + 3) ls (vi (mem a k) :: st) n ok mem) : PW mi d nf n0 Q pc ls (vr a :: st) n ok mem :=
  pw_getAny k hd hc hO hk hw (vi (mem a k)) (fun _ ad => by unfold reF; rw [if_neg (by omega), if_neg (by omega)]; rfl) (fun h => kk (h k))
theorem pw_getR (k t : Nat) (hd : decode (mB mi) pc = .ok (.getfield idx, 3)) (hc : clsOk ci C0 T N ty) (hO : Ob n ci a) (hk : k < N) (hw : Cond.fieldLink (mY mi).cls idx (T k).1 (T k).2.1 (T k).2.2.1 ∈ lw_gd) (hf : fK ci k = 2) (ho : ok a k = true) (ht : tg ci k a = t) (kk : PW mi d nf n0 Q (pc + 3) ls (vr t :: st) n ok mem) : PW mi d nf n0 Q pc ls (vr a :: st) n ok mem :=
  pw_getAny k hd hc hO hk hw (vr t) (fun _ ad => by unfold reF; rw [if_pos hf, if_pos ho, ht]) (fun _ => kk)
theorem pw_getN (k : Nat) (hd : decode (mB mi) pc = .ok (.getfield idx, 3)) (hc : clsOk ci C0 T N ty) (hO : Ob n ci a) (hk : k < N) (hw : Cond.fieldLink (mY mi).cls idx (T k).1 (T k).2.1 (T k).2.2.1 ∈ lw_gd) (hf : fK ci k = 2) (ho : ok a k = false) (kk : PW mi d nf n0 Q (pc + 3) ls (vr 0 :: st) n ok mem) : PW mi d nf n0 Q pc ls (vr a :: st) n ok mem :=
  pw_getAny k hd hc hO hk hw (vr 0) (fun _ ad => by unfold reF; rw [if_pos hf, if_neg (by rw [ho]; simp)]; rfl) (fun _ => kk)
theorem pw_getV (k t : Nat) (hd : decode (mB mi) pc = .ok (.getfield idx, 3)) (hc : clsOk ci C0 T N ty) (hO : Ob n ci a) (hk : k < N) (hw : Cond.fieldLink (mY mi).cls idx (T k).1 (T k).2.1 (T k).2.2.1 ∈ lw_gd) (hf : fK ci k = 3) (ht : mem a k = (t : Int)) (kk : PW mi d nf n0 Q (pc + 3) ls (vr t :: st) n ok mem) : PW mi d nf n0 Q pc ls (vr a :: st) n ok mem :=
  pw_getAny k hd hc hO hk hw (vr t) (fun _ ad => by unfold reF; rw [if_neg (by omega), if_pos hf, ht]; rfl) (fun _ => kk)
/-- putting: a field that isn't final, or a final one in its constructor -/
theorem pw_putAny (k : Nat) (hd : decode (mB mi) pc = .ok (.putfield idx, 3)) (hc : clsOk ci C0 T N ty) (hO : Ob n ci a) (hk : k < N) (hw : Cond.fieldLink (mY mi).cls idx (T k).1 (T k).2.1 (T k).2.2.1 ∈ lw_gd) (hfin : (T k).2.2.2 = false ∨ ((T k).2.2.2 = true ∧ (mY mi).name = "<init>" ∧ (T k).1 = (mY mi).cls)) (v : pV) (ok' : pO) (mem' : pM) (hn : ∀ ad, narrow (ty k) (tr ad v) = tr ad v ∧ fits (ty k) (tr ad v) = true)
    (hv : ∀ ad, reF ad ok' mem' ci a k = tr ad v) (ho : ∀ ad j, j ≠ k → reF ad ok' mem' ci a j = reF ad ok mem ci a j) (hm : ∀ b, b ≠ a → mem' b = mem b ∧ ok' b = ok b) (hNr : Nrm n ok mem → Nrm n ok' mem') (kk : PW mi d nf n0 Q (pc + 3) ls st n ok' mem') : PW mi d nf n0 Q pc ls (v :: vr a :: st) n ok mem := by
  intro p l e R s m args below meth c Z E ad0 H locs ad lsr C hW hS hv' h0 h1 hag
  obtain ⟨ha1, ha2, hck⟩ := hO
  obtain ⟨hcl, hin, hty, hnm, hln, -⟩ := hc
  obtain ⟨hP, hK, hD, hN, hs⟩ := id hW
  have hg := wsL_get E ad ok mem ha1 ha2
  rw [reE_obj hck (hln a hck)] at hg
  have hset := wsL_set E ad (n := n) ok ok' mem mem' ha1 ha2 (fun b hb _ _ => reE_mem (hm b hb).1 (hm b hb).2)
  rw [List.map_cons, List.map_cons, tr_ref ha1]
  have hl : k < ((List.range N).map (fun k => reF ad ok mem ci a k)).length := by simpa using hk
  have go : ∀ (H1 : Heap) (locs1 : List Loc), va_P (eD E) vwCl ((wsL E ad n ok mem).set (a - 1) (ad a, .inr (ci, ((List.range N).map (fun k => reF ad ok mem ci a k)).set k (tr ad v)))) H1 → va_D (pA E) ((wsL E ad n ok mem).set (a - 1) (ad a, .inr (ci, ((List.range N).map (fun k => reF ad ok mem ci a k)).set k (tr ad v)))) → va_S (pA E) s.heap H1 locs1 →
      W p l e R s m args below meth c H1 locs1 (n - n0) (sS n - sS n0) Z (F0 m (pc + 3) lsr (st.map (tr ad))) := by
    intro H1 locs1 hP1 hD1 hS1
    rw [fs_set (hv ad) (ho ad), ← reE_obj hck (hln a hck), hset] at hP1 hD1
    exact kk p l e R s m args below meth c Z E ad0 H1 locs1 ad lsr C ⟨hP1, hK, hD1, hNr hN, hs⟩ hS1 hv' h0 h1 hag
  rcases hfin with hf | ⟨hf, hi, hw2⟩
  · exact va_put C.1 C.2.1 C.2.2.2.2.1 hin ty hty hnm C.2.2.2.1 hK hP hD hS (a - 1) hg hcl k hk (C.2.2.2.2.1 _ hw) (fun _ h => h) hf (hty k hk) (hn ad).1 (hn ad).2 hl hd go
  · exact va_putF C.1 C.2.1 C.2.2.2.2.1 hin ty hty hnm C.2.2.2.1 hK hP hD hS (a - 1) hg hcl k hk (C.2.2.2.2.1 _ hw) (fun _ h => h) hf (C.2.2.2.2.2.1.trans hi) hw2 (hty k hk) (hn ad).1 (hn ad).2 hl hd go
theorem reF_wr {ad : Nat → Nat} {ok : pO} {mem : pM} {ci a k j : Nat} {x : Int} (h : j ≠ k) : reF ad ok (wr mem a k x) ci a j = reF ad ok mem ci a j := by
  unfold reF
  rw [wr_k mem a a x (by omega)]
theorem put_side {ci a k j : Nat} (hO : ck a = 10 + ci) (hf : fK ci k ≠ 3) (h2 : fK (ck a - 10) j = 3) : (j : Int) ≠ (k : Int) := by
  intro e
  have e1 : j = k := by omega
  subst e1
  rw [hO, show 10 + ci - 10 = ci by omega] at h2
  exact hf h2
theorem okS_n (ok : pO) (a b : Nat) {k j : Nat} (h : j ≠ k) : okS ok a k b j = ok b j := by unfold okS; rw [if_neg (fun z => h z.2)]
theorem pw_putI {x : Int} (k : Nat) (hd : decode (mB mi) pc = .ok (.putfield idx, 3)) (hc : clsOk ci C0 T N ty) (hO : Ob n ci a) (hk : k < N) (hw : Cond.fieldLink (mY mi).cls idx (T k).1 (T k).2.1 (T k).2.2.1 ∈ lw_gd) (hfin : (T k).2.2.2 = false) (hty : ty k = .int) (hf : fK ci k = 0) (hx : -2147483648 ≤ x ∧ x ≤ 2147483647) (kk : PW mi d nf n0 Q (pc + 3) ls st n ok (wr mem a k x)) : PW mi d nf n0 Q pc ls (vi x :: vr a :: st) n ok mem :=
  pw_putAny k hd hc hO hk hw (Or.inl hfin) (vi x) ok (wr mem a k x) (fun ad => by rw [hty]; exact ⟨rfl, rfl⟩) (fun ad => by unfold reF; rw [if_neg (by omega), if_neg (by omega), wr_s]; rfl) (fun ad j hj => reF_wr hj) (fun b hb => ⟨wr_a mem _ _ hb, rfl⟩)
    (fun hN => hN.put hx (fun j h1 h2 => Or.inl (put_side hO.2.2 (by omega) h2))) kk
theorem pw_putIz {x : Int} (k : Nat) (hd : decode (mB mi) pc = .ok (.putfield idx, 3)) (hc : clsOk ci C0 T N ty) (hO : Ob n ci a) (hk : k < N) (hw : Cond.fieldLink (mY mi).cls idx (T k).1 (T k).2.1 (T k).2.2.1 ∈ lw_gd) (hfin : (T k).2.2.2 = false) (hty : ty k = .int) (hf : fK ci k = 0) (kk : PW mi d nf n0 Q (pc + 3) ls st n ok (wr mem a k (nz x))) : PW mi d nf n0 Q pc ls (vi x :: vr a :: st) n ok mem :=
  pw_putAny k hd hc hO hk hw (Or.inl hfin) (vi x) ok (wr mem a k (nz x)) (fun ad => by rw [hty]; exact ⟨rfl, rfl⟩) (fun ad => by unfold reF; rw [if_neg (by omega), if_neg (by omega), wr_s, nz_of]; rfl) (fun ad j hj => reF_wr hj) (fun b hb => ⟨wr_a mem _ _ hb, rfl⟩)
    (fun hN => hN.put (nz_ran x) (fun j h1 h2 => Or.inl (put_side hO.2.2 (by omega) h2))) kk
theorem pw_putZ {x : Int} (k : Nat) (hd : decode (mB mi) pc = .ok (.putfield idx, 3)) (hc : clsOk ci C0 T N ty) (hO : Ob n ci a) (hk : k < N) (hw : Cond.fieldLink (mY mi).cls idx (T k).1 (T k).2.1 (T k).2.2.1 ∈ lw_gd) (hfin : (T k).2.2.2 = false) (hty : ty k = .boolean) (hf : fK ci k = 1) (hx : x = 0 ∨ x = 1) (kk : PW mi d nf n0 Q (pc + 3) ls st n ok (wr mem a k x)) : PW mi d nf n0 Q pc ls (vi x :: vr a :: st) n ok mem :=
  pw_putAny k hd hc hO hk hw (Or.inl hfin) (vi x) ok (wr mem a k x) (fun ad => by rw [hty]; rcases hx with rfl | rfl <;> exact ⟨rfl, rfl⟩) (fun ad => by unfold reF; rw [if_neg (by omega), if_neg (by omega), wr_s]; rfl) (fun ad j hj => reF_wr hj) (fun b hb => ⟨wr_a mem _ _ hb, rfl⟩)
    (fun hN => hN.put (by omega) (fun j h1 h2 => Or.inl (put_side hO.2.2 (by omega) h2))) kk
theorem okS_s (ok : pO) (a k : Nat) : okS ok a k a k = true := by simp [okS]
theorem Nrm.put2 {n : Nat} {ok : pO} {mem : pM} (h : Nrm n ok mem) {a k : Nat} (h1 : 10 ≤ ck a → fK (ck a - 10) k = 2 → tg (ck a - 10) k a ≤ n) (h2 : ck a = 3 → cTg k ≤ n) : Nrm n (okS ok a k) mem := by
  obtain ⟨g1, g2, g3, g4, g5⟩ := h
  refine ⟨g1, fun b j hb1 hb2 hc hf ho => ?_, fun b j hb1 hb2 hc ho => ?_, g4, g5⟩
  · unfold okS at ho
    by_cases e : b = a ∧ j = k
    · obtain ⟨rfl, rfl⟩ := e
      exact h1 hc hf
    · rw [if_neg e] at ho
      exact g2 b j hb1 hb2 hc hf ho
  · unfold okS at ho
    by_cases e : b = a ∧ j = k
    · obtain ⟨rfl, rfl⟩ := e
      exact h2 hc
    · rw [if_neg e] at ho
      exact g3 b j hb1 hb2 hc ho
theorem fit_ref {t : FieldType} (h : (∃ C, t = .object C) ∨ ∃ u, t = .array u) (b : Nat) : narrow t (.ref b) = .ref b ∧ fits t (.ref b) = true := by
  rcases h with ⟨C, rfl⟩ | ⟨u, rfl⟩ <;> exact ⟨rfl, rfl⟩
theorem pw_putR {t : Nat} (k : Nat) (hd : decode (mB mi) pc = .ok (.putfield idx, 3)) (hc : clsOk ci C0 T N ty) (hO : Ob n ci a) (hk : k < N) (hw : Cond.fieldLink (mY mi).cls idx (T k).1 (T k).2.1 (T k).2.2.1 ∈ lw_gd) (hfin : (T k).2.2.2 = false ∨ ((T k).2.2.2 = true ∧ (mY mi).name = "<init>" ∧ (T k).1 = (mY mi).cls)) (hty : (∃ C, ty k = .object C) ∨ ∃ u, ty k = .array u) (hf : fK ci k = 2) (ht : tg ci k a = t) (ht1 : 1 ≤ t) (ht2 : t ≤ n) (kk : PW mi d nf n0 Q (pc + 3) ls st n (okS ok a k) mem) : PW mi d nf n0 Q pc ls (vr t :: vr a :: st) n ok mem :=
  pw_putAny k hd hc hO hk hw hfin (vr t) (okS ok a k) mem (fun ad => by rw [tr_ref ht1]; exact fit_ref hty _) (fun ad => by unfold reF; rw [if_pos hf, okS_s, if_pos rfl, ht]) (fun ad j hj => by unfold reF; rw [okS_n ok a a hj]) (fun b hb => ⟨rfl, by funext j; unfold okS; rw [if_neg (fun z => hb z.1)]⟩)
    (fun hN => hN.put2 (fun _ _ => by rw [hO.2.2, show 10 + ci - 10 = ci by omega, ht]; exact ht2) (fun h => by have := hO.2.2; omega)) kk
theorem pw_putV {t : Nat} (k : Nat) (hd : decode (mB mi) pc = .ok (.putfield idx, 3)) (hc : clsOk ci C0 T N ty) (hO : Ob n ci a) (hk : k < N) (hw : Cond.fieldLink (mY mi).cls idx (T k).1 (T k).2.1 (T k).2.2.1 ∈ lw_gd) (hfin : (T k).2.2.2 = false) (hty : (∃ C, ty k = .object C) ∨ ∃ u, ty k = .array u) (hf : fK ci k = 3) (ht1 : 1 ≤ t) (ht2 : t ≤ n) (hn : n ≤ 133) (kk : PW mi d nf n0 Q (pc + 3) ls st n ok (wr mem a k t)) : PW mi d nf n0 Q pc ls (vr t :: vr a :: st) n ok mem :=
  pw_putAny k hd hc hO hk hw (Or.inl hfin) (vr t) ok (wr mem a k t) (fun ad => by rw [tr_ref ht1]; exact fit_ref hty _) (fun ad => by unfold reF; rw [if_neg (by omega), if_pos hf, wr_s]; rfl) (fun ad j hj => reF_wr hj) (fun b hb => ⟨wr_a mem _ _ hb, rfl⟩)
    (fun hN => hN.put (by omega) (fun j h1 h2 => Or.inr (by simpa using ht2))) kk
/-- the array of chests -/
theorem pw_aaload {i : Int} {L : Nat} (hd : decode (mB mi) pc = .ok (.aaload, 1)) (ha1 : 1 ≤ a) (ha2 : a ≤ n) (hck : ck a = 3) (hln : ln a = L) (hL : L < 2147483648) (hi1 : 0 ≤ i) (hi2 : i < L) (t : Nat) (ht : (t : Int) = 5 + 18 * i) (ho : ok a i.toNat = true) (kk : PW mi d nf n0 Q (pc + 1) ls (vr t :: st) n ok mem) : PW mi d nf n0 Q pc ls (vi i :: vr a :: st) n ok mem := by
  intro p l e R s m args below meth c Z E ad0 H locs ad lsr C hW hS hv h0 h1 hag
  obtain ⟨hP, hK, hD, hN, -⟩ := id hW
  have hg := wsL_get E ad ok mem ha1 ha2
  have he : reE E ad ok mem a = .inl (eC E, L, .inr (.inr (.inr (.inr (fun j => if ok a j = true then some (ad (cTg j)) else none))))) := by unfold reE; rw [if_neg (by omega), if_neg (by omega), if_pos hck, hln]
  rw [he] at hg
  rw [List.map_cons, List.map_cons, tr_ref ha1]
  refine va_aldq C.1 C.2.1 hK hP (a - 1) 2 hg rfl (o_vin hi1 hi2 hL) hd ?_
  have ht' : cTg i.toNat = t := by unfold cTg; omega
  rw [o_cl hi1 (by omega), if_pos ho, ht']
  have h2 := kk p l e R s m args below meth c Z E ad0 H locs ad lsr C hW hS hv h0 h1 hag
  rw [List.map_cons, tr_ref (by omega)] at h2
  exact h2
theorem pw_aastore {i : Int} {L t : Nat} (hd : decode (mB mi) pc = .ok (.aastore, 1)) (ha1 : 1 ≤ a) (ha2 : a ≤ n) (hck : ck a = 3) (hln : ln a = L) (hL : L < 2147483648) (hi1 : 0 ≤ i) (hi2 : i < L) (ht : (t : Int) = 5 + 18 * i) (hO : Ob n 0 t) (kk : PW mi d nf n0 Q (pc + 1) ls st n (okS ok a i.toNat) mem) : PW mi d nf n0 Q pc ls (vr t :: vi i :: vr a :: st) n ok mem := by
  intro p l e R s m args below meth c Z E ad0 H locs ad lsr C hW hS hv h0 h1 hag
  obtain ⟨hP, hK, hD, hN, hs⟩ := id hW
  have hg := wsL_get E ad ok mem ha1 ha2
  have hgt := wsL_get E ad ok mem hO.1 hO.2.1
  rw [reE_obj (N := ln t) hO.2.2 rfl] at hgt
  have he : ∀ ok : pO, reE E ad ok mem a = .inl (eC E, L, .inr (.inr (.inr (.inr (fun j => if ok a j = true then some (ad (cTg j)) else none))))) := fun ok => by unfold reE; rw [if_neg (by omega), if_neg (by omega), if_pos hck, hln]
  rw [he] at hg
  have hset := wsL_set E ad (n := n) ok (okS ok a i.toNat) mem mem ha1 ha2 (fun b hb _ _ => reE_mem rfl (by funext j; unfold okS; rw [if_neg (fun z => hb z.1)]))
  have ht' : cTg i.toNat = t := by unfold cTg; omega
  have hup : va_up (fun j => if ok a j = true then some (ad (cTg j)) else none) i.toNat (some (ad t)) = (fun j => if okS ok a i.toNat a j = true then some (ad (cTg j)) else none) := by
    funext j
    unfold va_up
    by_cases e : j = i.toNat
    · subst e
      rw [okS_s, if_pos rfl, if_pos rfl, ht']
    · rw [if_neg e, okS_n ok a a e]
  rw [List.map_cons, List.map_cons, List.map_cons, tr_ref ha1, tr_ref hO.1]
  refine va_astq C.1 C.2.1 hK hP hD hS (a - 1) 2 (t - 1) 0 hg rfl hgt rfl (o_vin hi1 hi2 hL) hd (fun H1 locs1 hP1 hD1 hS1 => ?_)
  rw [o_cl hi1 (by omega), hup, ← he, hset] at hP1 hD1
  exact kk p l e R s m args below meth c Z E ad0 H1 locs1 ad lsr C ⟨hP1, hK, hD1, hN.put2 (fun h => by omega) (fun _ => by rw [ht']; exact hO.2.1), hs⟩ hS1 hv h0 h1 hag
end PF
