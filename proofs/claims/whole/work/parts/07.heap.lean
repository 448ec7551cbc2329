/-! ===== rows of the heap ===== -/
/-- an int array (kind 1) or boolean array (kind 2) of L places that is there -/
def Ar (n : Nat) (a L : Nat) : Prop := 1 ≤ a ∧ a ≤ n ∧ ck a = 1 ∧ ln a = L ∧ L < 2147483648
def Az (n : Nat) (a L : Nat) : Prop := 1 ≤ a ∧ a ≤ n ∧ ck a = 2 ∧ ln a = L ∧ L < 2147483648
/-- an object of class ci that is there -/
def Ob (n : Nat) (ci a : Nat) : Prop := 1 ≤ a ∧ a ≤ n ∧ ck a = 10 + ci
theorem tr_ref {ad : Nat → Nat} {a : Nat} (h : 1 ≤ a) : tr ad (vr a) = .ref (ad a) := if_neg (by omega)
theorem Nrm.put {n : Nat} {ok : pO} {mem : pM} (h : Nrm n ok mem) {a : Nat} {k x : Int} (hx : -2147483648 ≤ x ∧ x ≤ 2147483647) (hv : ∀ j : Nat, 10 ≤ ck a → fK (ck a - 10) j = 3 → (j : Int) ≠ k ∨ x.toNat ≤ n) : Nrm n ok (wr mem a k x) := by
  obtain ⟨h1, h2, h3, h4, h5⟩ := h
  refine ⟨fun b j => ?_, h2, h3, fun b j hb1 hb2 hc hf => ?_, h5⟩
  · unfold wr
    by_cases e : b = a ∧ j = k
    · rw [if_pos e]; exact hx
    · rw [if_neg e]; exact h1 b j
  · unfold wr
    by_cases e : b = a ∧ (j : Int) = k
    · rw [if_pos e]
      rcases hv j (e.1 ▸ hc) (e.1 ▸ hf) with q | q
      · exact absurd e.2 q
      · exact q
    · rw [if_neg e]; exact h4 b j hb1 hb2 hc hf
section PH
variable {mi : MI} {d nf n0 : Nat} {Q : pQt} {pc : Nat} {ls : List (Nat × pV)} {st : List pV} {n : Nat} {ok : pO} {mem : pM}
theorem pw_iaload {a L : Nat} {i : Int} (hd : decode (mB mi) pc = .ok (.iaload, 1)) (hA : Ar n a L) (hi1 : 0 ≤ i) (hi2 : i < L) (k : -2147483648 ≤ mem a i ∧ mem a i ≤ 2147483647 → PW mi d nf n0 Q (pc + 1) ls (vi (mem a i) :: st) n ok mem) : PW mi d nf n0 Q pc ls (vi i :: vr a :: st) n ok mem := by
  intro p l e R s m args below meth c Z E ad0 H locs ad lsr C hW hS hv h0 h1 hag
  obtain ⟨ha1, ha2, hck, hln, hL⟩ := hA
  obtain ⟨hP, hK, hD, hN, -⟩ := id hW
  have hg := wsL_get E ad ok mem ha1 ha2
  have he : reE E ad ok mem a = .inl (eI E, L, .inl (fun j => Int32.ofInt (mem a j))) := by unfold reE; rw [if_pos hck, hln]
  rw [he] at hg
  rw [List.map_cons, List.map_cons, tr_ref ha1]
  refine va_iald C.1 C.2.1 hK hP (a - 1) 0 hg rfl (o_vin hi1 hi2 hL) hd ?_
  rw [o_cl hi1 (by omega), Int.toNat_of_nonneg hi1]
  exact k (hN.1 a i) p l e R s m args below meth c Z E ad0 H locs ad lsr C hW hS hv h0 h1 hag
theorem pw_baload {a L : Nat} {i : Int} (hd : decode (mB mi) pc = .ok (.baload, 1)) (hA : Az n a L) (hi1 : 0 ≤ i) (hi2 : i < L) (k : -2147483648 ≤ mem a i ∧ mem a i ≤ 2147483647 → PW mi d nf n0 Q (pc + 1) ls (vi (mem a i) :: st) n ok mem) : PW mi d nf n0 Q pc ls (vi i :: vr a :: st) n ok mem := by
  intro p l e R s m args below meth c Z E ad0 H locs ad lsr C hW hS hv h0 h1 hag
  obtain ⟨ha1, ha2, hck, hln, hL⟩ := hA
  obtain ⟨hP, hK, hD, hN, -⟩ := id hW
  have hg := wsL_get E ad ok mem ha1 ha2
  have he : reE E ad ok mem a = .inl (eZ E, L, .inl (fun j => Int32.ofInt (mem a j))) := by unfold reE; rw [if_neg (by omega), if_pos hck, hln]
  rw [he] at hg
  rw [List.map_cons, List.map_cons, tr_ref ha1]
  refine va_zald C.1 C.2.1 hK hP (a - 1) 1 hg rfl (o_vin hi1 hi2 hL) hd ?_
  rw [o_cl hi1 (by omega), Int.toNat_of_nonneg hi1]
  exact k (hN.1 a i) p l e R s m args below meth c Z E ad0 H locs ad lsr C hW hS hv h0 h1 hag
theorem upd_wr {mem : pM} {a : Nat} {i x : Int} (hi : 0 ≤ i) : upd (fun j => Int32.ofInt (mem a j)) i.toNat (Int32.ofInt x) = (fun j : Nat => Int32.ofInt (wr mem a i x a j)) := by
  funext j
  by_cases e : j = i.toNat
  · subst e
    rw [pk_us, Int.toNat_of_nonneg hi, wr_s]
  · rw [pk_un e, wr_k mem a a x (by omega)]
theorem pw_iastore {a L : Nat} {i x : Int} (hd : decode (mB mi) pc = .ok (.iastore, 1)) (hA : Ar n a L) (hi1 : 0 ≤ i) (hi2 : i < L) (hx : -2147483648 ≤ x ∧ x ≤ 2147483647) (k : PW mi d nf n0 Q (pc + 1) ls st n ok (wr mem a i x)) : PW mi d nf n0 Q pc ls (vi x :: vi i :: vr a :: st) n ok mem := by
  intro p l e R s m args below meth c Z E ad0 H locs ad lsr C hW hS hv h0 h1 hag
  obtain ⟨ha1, ha2, hck, hln, hL⟩ := hA
  obtain ⟨hP, hK, hD, hN, hs⟩ := id hW
  have hg := wsL_get E ad ok mem ha1 ha2
  have he : ∀ mem : pM, reE E ad ok mem a = .inl (eI E, L, .inl (fun j => Int32.ofInt (mem a j))) := fun mem => by unfold reE; rw [if_pos hck, hln]
  rw [he] at hg
  have hset := wsL_set E ad (n := n) ok ok mem (wr mem a i x) ha1 ha2 (fun b hb _ _ => reE_mem (wr_a mem i x hb) rfl)
  rw [List.map_cons, List.map_cons, List.map_cons, tr_ref ha1]
  refine va_iast C.1 C.2.1 hK hP hD hS (a - 1) 0 hg rfl (o_vin hi1 hi2 hL) hd (fun H1 locs1 hP1 hD1 hS1 => ?_)
  rw [o_cl hi1 (by omega), upd_wr hi1, ← he, hset] at hP1 hD1
  exact k p l e R s m args below meth c Z E ad0 H1 locs1 ad lsr C ⟨hP1, hK, hD1, hN.put hx (fun j h => by omega), hs⟩ hS1 hv h0 h1 hag
theorem pw_bastore {a L : Nat} {i x : Int} (hd : decode (mB mi) pc = .ok (.bastore, 1)) (hA : Az n a L) (hi1 : 0 ≤ i) (hi2 : i < L) (hx : x = 0 ∨ x = 1) (k : PW mi d nf n0 Q (pc + 1) ls st n ok (wr mem a i x)) : PW mi d nf n0 Q pc ls (vi x :: vi i :: vr a :: st) n ok mem := by
  intro p l e R s m args below meth c Z E ad0 H locs ad lsr C hW hS hv h0 h1 hag
  obtain ⟨ha1, ha2, hck, hln, hL⟩ := hA
  obtain ⟨hP, hK, hD, hN, hs⟩ := id hW
  have hg := wsL_get E ad ok mem ha1 ha2
  have he : ∀ mem : pM, reE E ad ok mem a = .inl (eZ E, L, .inl (fun j => Int32.ofInt (mem a j))) := fun mem => by unfold reE; rw [if_neg (by omega), if_pos hck, hln]
  rw [he] at hg
  have hset := wsL_set E ad (n := n) ok ok mem (wr mem a i x) ha1 ha2 (fun b hb _ _ => reE_mem (wr_a mem i x hb) rfl)
  have hnar : vp_nar .boolean (Int32.ofInt x) = Int32.ofInt x := by rcases hx with rfl | rfl <;> rfl
  rw [List.map_cons, List.map_cons, List.map_cons, tr_ref ha1]
  refine va_zast C.1 C.2.1 hK hP hD hS (a - 1) 1 hg rfl (o_vin hi1 hi2 hL) hd (fun H1 locs1 hP1 hD1 hS1 => ?_)
  rw [hnar, o_cl hi1 (by omega), upd_wr hi1, ← he, hset] at hP1 hD1
  exact k p l e R s m args below meth c Z E ad0 H1 locs1 ad lsr C ⟨hP1, hK, hD1, hN.put (by omega) (fun j h => by omega), hs⟩ hS1 hv h0 h1 hag
theorem pw_alen {a L : Nat} (hd : decode (mB mi) pc = .ok (.arraylength, 1)) (hA : Ar n a L) (k : PW mi d nf n0 Q (pc + 1) ls (vi L :: st) n ok mem) : PW mi d nf n0 Q pc ls (vr a :: st) n ok mem := by
  intro p l e R s m args below meth c Z E ad0 H locs ad lsr C hW hS hv h0 h1 hag
  obtain ⟨ha1, ha2, hck, hln, hL⟩ := hA
  obtain ⟨hP, hK, hD, hN, -⟩ := id hW
  have hg := wsL_get E ad ok mem ha1 ha2
  have he : reE E ad ok mem a = .inl (eI E, L, .inl (fun j => Int32.ofInt (mem a j))) := by unfold reE; rw [if_pos hck, hln]
  rw [he] at hg
  rw [List.map_cons, tr_ref ha1]
  exact va_alen C.1 C.2.1 hK hP (a - 1) 0 hg rfl (Int32.ofInt_eq_ofNat.symm) hd (k p l e R s m args below meth c Z E ad0 H locs ad lsr C hW hS hv h0 h1 hag)
end PH
