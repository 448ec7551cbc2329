/-! ===== rows of branches ===== -/
section PB
variable {mi : MI} {d nf n0 : Nat} {Q : pQt} {pc : Nat} {ls : List (Nat × pV)} {st : List pV} {n : Nat} {ok : pO} {mem : pM}
theorem pw_icmp_eq {x y off : Int} (tgt : Nat) (ht : (pc : Int) + off = (tgt : Int)) (hd : decode (mB mi) pc = .ok (.if_icmp .eq off, 3)) (hx : -2147483648 ≤ x ∧ x ≤ 2147483647) (hy : -2147483648 ≤ y ∧ y ≤ 2147483647) (kt : x = y → PW mi d nf n0 Q tgt ls st n ok mem) (kf : ¬ (x = y) → PW mi d nf n0 Q (pc + 3) ls st n ok mem) : PW mi d nf n0 Q pc ls (vi y :: vi x :: st) n ok mem := by
  intro p l e R s m args below meth c Z E ad0 H locs ad lsr C hW hS hv h0 h1 hag
  have hi := o_eq hx hy
  exact lv_icmp_eq C.1 C.2.1 hd ht (fun q => (kt (hi.mp q)) p l e R s m args below meth c Z E ad0 H locs ad lsr C hW hS hv h0 h1 hag) (fun q => (kf (fun z => q (hi.mpr z))) p l e R s m args below meth c Z E ad0 H locs ad lsr C hW hS hv h0 h1 hag)
theorem pw_if_eq {x off : Int} (tgt : Nat) (ht : (pc : Int) + off = (tgt : Int)) (hd : decode (mB mi) pc = .ok (.ifCond .eq off, 3)) (hx : -2147483648 ≤ x ∧ x ≤ 2147483647) (kt : x = 0 → PW mi d nf n0 Q tgt ls st n ok mem) (kf : ¬ (x = 0) → PW mi d nf n0 Q (pc + 3) ls st n ok mem) : PW mi d nf n0 Q pc ls (vi x :: st) n ok mem := by
  intro p l e R s m args below meth c Z E ad0 H locs ad lsr C hW hS hv h0 h1 hag
  have hi := o_eq hx (show -2147483648 ≤ (0 : Int) ∧ (0 : Int) ≤ 2147483647 by decide)
  exact lv_if_eq C.1 C.2.1 hd ht (fun q => (kt (hi.mp q)) p l e R s m args below meth c Z E ad0 H locs ad lsr C hW hS hv h0 h1 hag) (fun q => (kf (fun z => q (hi.mpr z))) p l e R s m args below meth c Z E ad0 H locs ad lsr C hW hS hv h0 h1 hag)
theorem pw_icmp_ne {x y off : Int} (tgt : Nat) (ht : (pc : Int) + off = (tgt : Int)) (hd : decode (mB mi) pc = .ok (.if_icmp .ne off, 3)) (hx : -2147483648 ≤ x ∧ x ≤ 2147483647) (hy : -2147483648 ≤ y ∧ y ≤ 2147483647) (kt : x ≠ y → PW mi d nf n0 Q tgt ls st n ok mem) (kf : x = y → PW mi d nf n0 Q (pc + 3) ls st n ok mem) : PW mi d nf n0 Q pc ls (vi y :: vi x :: st) n ok mem := by
  intro p l e R s m args below meth c Z E ad0 H locs ad lsr C hW hS hv h0 h1 hag
  have hi := o_eq hx hy
  exact lv_icmp_ne C.1 C.2.1 hd ht (fun q => (kt (fun z => q (hi.mpr z))) p l e R s m args below meth c Z E ad0 H locs ad lsr C hW hS hv h0 h1 hag) (fun q => (kf (hi.mp q)) p l e R s m args below meth c Z E ad0 H locs ad lsr C hW hS hv h0 h1 hag)
theorem pw_if_ne {x off : Int} (tgt : Nat) (ht : (pc : Int) + off = (tgt : Int)) (hd : decode (mB mi) pc = .ok (.ifCond .ne off, 3)) (hx : -2147483648 ≤ x ∧ x ≤ 2147483647) (kt : x ≠ 0 → PW mi d nf n0 Q tgt ls st n ok mem) (kf : x = 0 → PW mi d nf n0 Q (pc + 3) ls st n ok mem) : PW mi d nf n0 Q pc ls (vi x :: st) n ok mem := by
  intro p l e R s m args below meth c Z E ad0 H locs ad lsr C hW hS hv h0 h1 hag
  have hi := o_eq hx (show -2147483648 ≤ (0 : Int) ∧ (0 : Int) ≤ 2147483647 by decide)
  exact lv_if_ne C.1 C.2.1 hd ht (fun q => (kt (fun z => q (hi.mpr z))) p l e R s m args below meth c Z E ad0 H locs ad lsr C hW hS hv h0 h1 hag) (fun q => (kf (hi.mp q)) p l e R s m args below meth c Z E ad0 H locs ad lsr C hW hS hv h0 h1 hag)
theorem pw_icmp_lt {x y off : Int} (tgt : Nat) (ht : (pc : Int) + off = (tgt : Int)) (hd : decode (mB mi) pc = .ok (.if_icmp .lt off, 3)) (hx : -2147483648 ≤ x ∧ x ≤ 2147483647) (hy : -2147483648 ≤ y ∧ y ≤ 2147483647) (kt : x < y → PW mi d nf n0 Q tgt ls st n ok mem) (kf : ¬ (x < y) → PW mi d nf n0 Q (pc + 3) ls st n ok mem) : PW mi d nf n0 Q pc ls (vi y :: vi x :: st) n ok mem := by
  intro p l e R s m args below meth c Z E ad0 H locs ad lsr C hW hS hv h0 h1 hag
  have hi := o_lt hx hy
  exact lv_icmp_lt C.1 C.2.1 hd ht (fun q => (kt (hi.mp q)) p l e R s m args below meth c Z E ad0 H locs ad lsr C hW hS hv h0 h1 hag) (fun q => (kf (fun z => q (hi.mpr z))) p l e R s m args below meth c Z E ad0 H locs ad lsr C hW hS hv h0 h1 hag)
theorem pw_if_lt {x off : Int} (tgt : Nat) (ht : (pc : Int) + off = (tgt : Int)) (hd : decode (mB mi) pc = .ok (.ifCond .lt off, 3)) (hx : -2147483648 ≤ x ∧ x ≤ 2147483647) (kt : x < 0 → PW mi d nf n0 Q tgt ls st n ok mem) (kf : ¬ (x < 0) → PW mi d nf n0 Q (pc + 3) ls st n ok mem) : PW mi d nf n0 Q pc ls (vi x :: st) n ok mem := by
  intro p l e R s m args below meth c Z E ad0 H locs ad lsr C hW hS hv h0 h1 hag
  have hi := o_lt hx (show -2147483648 ≤ (0 : Int) ∧ (0 : Int) ≤ 2147483647 by decide)
  exact lv_if_lt C.1 C.2.1 hd ht (fun q => (kt (hi.mp q)) p l e R s m args below meth c Z E ad0 H locs ad lsr C hW hS hv h0 h1 hag) (fun q => (kf (fun z => q (hi.mpr z))) p l e R s m args below meth c Z E ad0 H locs ad lsr C hW hS hv h0 h1 hag)
theorem pw_icmp_ge {x y off : Int} (tgt : Nat) (ht : (pc : Int) + off = (tgt : Int)) (hd : decode (mB mi) pc = .ok (.if_icmp .ge off, 3)) (hx : -2147483648 ≤ x ∧ x ≤ 2147483647) (hy : -2147483648 ≤ y ∧ y ≤ 2147483647) (kt : y ≤ x → PW mi d nf n0 Q tgt ls st n ok mem) (kf : ¬ (y ≤ x) → PW mi d nf n0 Q (pc + 3) ls st n ok mem) : PW mi d nf n0 Q pc ls (vi y :: vi x :: st) n ok mem := by
  intro p l e R s m args below meth c Z E ad0 H locs ad lsr C hW hS hv h0 h1 hag
  have hi := o_le hy hx
  exact lv_icmp_ge C.1 C.2.1 hd ht (fun q => (kt (hi.mp q)) p l e R s m args below meth c Z E ad0 H locs ad lsr C hW hS hv h0 h1 hag) (fun q => (kf (fun z => q (hi.mpr z))) p l e R s m args below meth c Z E ad0 H locs ad lsr C hW hS hv h0 h1 hag)
theorem pw_if_ge {x off : Int} (tgt : Nat) (ht : (pc : Int) + off = (tgt : Int)) (hd : decode (mB mi) pc = .ok (.ifCond .ge off, 3)) (hx : -2147483648 ≤ x ∧ x ≤ 2147483647) (kt : 0 ≤ x → PW mi d nf n0 Q tgt ls st n ok mem) (kf : ¬ (0 ≤ x) → PW mi d nf n0 Q (pc + 3) ls st n ok mem) : PW mi d nf n0 Q pc ls (vi x :: st) n ok mem := by
  intro p l e R s m args below meth c Z E ad0 H locs ad lsr C hW hS hv h0 h1 hag
  have hi := o_le (show -2147483648 ≤ (0 : Int) ∧ (0 : Int) ≤ 2147483647 by decide) hx
  exact lv_if_ge C.1 C.2.1 hd ht (fun q => (kt (hi.mp q)) p l e R s m args below meth c Z E ad0 H locs ad lsr C hW hS hv h0 h1 hag) (fun q => (kf (fun z => q (hi.mpr z))) p l e R s m args below meth c Z E ad0 H locs ad lsr C hW hS hv h0 h1 hag)
theorem pw_icmp_gt {x y off : Int} (tgt : Nat) (ht : (pc : Int) + off = (tgt : Int)) (hd : decode (mB mi) pc = .ok (.if_icmp .gt off, 3)) (hx : -2147483648 ≤ x ∧ x ≤ 2147483647) (hy : -2147483648 ≤ y ∧ y ≤ 2147483647) (kt : y < x → PW mi d nf n0 Q tgt ls st n ok mem) (kf : ¬ (y < x) → PW mi d nf n0 Q (pc + 3) ls st n ok mem) : PW mi d nf n0 Q pc ls (vi y :: vi x :: st) n ok mem := by
  intro p l e R s m args below meth c Z E ad0 H locs ad lsr C hW hS hv h0 h1 hag
  have hi := o_lt hy hx
  exact lv_icmp_gt C.1 C.2.1 hd ht (fun q => (kt (hi.mp q)) p l e R s m args below meth c Z E ad0 H locs ad lsr C hW hS hv h0 h1 hag) (fun q => (kf (fun z => q (hi.mpr z))) p l e R s m args below meth c Z E ad0 H locs ad lsr C hW hS hv h0 h1 hag)
theorem pw_if_gt {x off : Int} (tgt : Nat) (ht : (pc : Int) + off = (tgt : Int)) (hd : decode (mB mi) pc = .ok (.ifCond .gt off, 3)) (hx : -2147483648 ≤ x ∧ x ≤ 2147483647) (kt : 0 < x → PW mi d nf n0 Q tgt ls st n ok mem) (kf : ¬ (0 < x) → PW mi d nf n0 Q (pc + 3) ls st n ok mem) : PW mi d nf n0 Q pc ls (vi x :: st) n ok mem := by
  intro p l e R s m args below meth c Z E ad0 H locs ad lsr C hW hS hv h0 h1 hag
  have hi := o_lt (show -2147483648 ≤ (0 : Int) ∧ (0 : Int) ≤ 2147483647 by decide) hx
  exact lv_if_gt C.1 C.2.1 hd ht (fun q => (kt (hi.mp q)) p l e R s m args below meth c Z E ad0 H locs ad lsr C hW hS hv h0 h1 hag) (fun q => (kf (fun z => q (hi.mpr z))) p l e R s m args below meth c Z E ad0 H locs ad lsr C hW hS hv h0 h1 hag)
theorem pw_icmp_le {x y off : Int} (tgt : Nat) (ht : (pc : Int) + off = (tgt : Int)) (hd : decode (mB mi) pc = .ok (.if_icmp .le off, 3)) (hx : -2147483648 ≤ x ∧ x ≤ 2147483647) (hy : -2147483648 ≤ y ∧ y ≤ 2147483647) (kt : x ≤ y → PW mi d nf n0 Q tgt ls st n ok mem) (kf : ¬ (x ≤ y) → PW mi d nf n0 Q (pc + 3) ls st n ok mem) : PW mi d nf n0 Q pc ls (vi y :: vi x :: st) n ok mem := by
  intro p l e R s m args below meth c Z E ad0 H locs ad lsr C hW hS hv h0 h1 hag
  have hi := o_le hx hy
  exact lv_icmp_le C.1 C.2.1 hd ht (fun q => (kt (hi.mp q)) p l e R s m args below meth c Z E ad0 H locs ad lsr C hW hS hv h0 h1 hag) (fun q => (kf (fun z => q (hi.mpr z))) p l e R s m args below meth c Z E ad0 H locs ad lsr C hW hS hv h0 h1 hag)
theorem pw_if_le {x off : Int} (tgt : Nat) (ht : (pc : Int) + off = (tgt : Int)) (hd : decode (mB mi) pc = .ok (.ifCond .le off, 3)) (hx : -2147483648 ≤ x ∧ x ≤ 2147483647) (kt : x ≤ 0 → PW mi d nf n0 Q tgt ls st n ok mem) (kf : ¬ (x ≤ 0) → PW mi d nf n0 Q (pc + 3) ls st n ok mem) : PW mi d nf n0 Q pc ls (vi x :: st) n ok mem := by
  intro p l e R s m args below meth c Z E ad0 H locs ad lsr C hW hS hv h0 h1 hag
  have hi := o_le hx (show -2147483648 ≤ (0 : Int) ∧ (0 : Int) ≤ 2147483647 by decide)
  exact lv_if_le C.1 C.2.1 hd ht (fun q => (kt (hi.mp q)) p l e R s m args below meth c Z E ad0 H locs ad lsr C hW hS hv h0 h1 hag) (fun q => (kf (fun z => q (hi.mpr z))) p l e R s m args below meth c Z E ad0 H locs ad lsr C hW hS hv h0 h1 hag)
theorem pw_ifnull_t {off : Int} (tgt : Nat) (ht : (pc : Int) + off = (tgt : Int)) (hd : decode (mB mi) pc = .ok (.ifnull off, 3)) (k : PW mi d nf n0 Q tgt ls st n ok mem) : PW mi d nf n0 Q pc ls (vr 0 :: st) n ok mem := by
  intro p l e R s m args below meth c Z E ad0 H locs ad lsr C hW hS hv h0 h1 hag
  exact lv_ifnullN C.1 C.2.1 hd ht (k p l e R s m args below meth c Z E ad0 H locs ad lsr C hW hS hv h0 h1 hag)
theorem pw_ifnull_f {off : Int} {a : Nat} (ha : a ≠ 0) (hd : decode (mB mi) pc = .ok (.ifnull off, 3)) (k : PW mi d nf n0 Q (pc + 3) ls st n ok mem) : PW mi d nf n0 Q pc ls (vr a :: st) n ok mem := by
  intro p l e R s m args below meth c Z E ad0 H locs ad lsr C hW hS hv h0 h1 hag
  have e1 : tr ad (vr a) = .ref (ad a) := if_neg ha
  rw [List.map_cons, e1]
  exact lv_ifnull C.1 C.2.1 hd (k p l e R s m args below meth c Z E ad0 H locs ad lsr C hW hS hv h0 h1 hag)
theorem pw_ifnonnull_f {off : Int} (hd : decode (mB mi) pc = .ok (.ifnonnull off, 3)) (k : PW mi d nf n0 Q (pc + 3) ls st n ok mem) : PW mi d nf n0 Q pc ls (vr 0 :: st) n ok mem := by
  intro p l e R s m args below meth c Z E ad0 H locs ad lsr C hW hS hv h0 h1 hag
  exact lv_ifnonnullN C.1 C.2.1 hd (k p l e R s m args below meth c Z E ad0 H locs ad lsr C hW hS hv h0 h1 hag)
theorem pw_ifnonnull_t {off : Int} {a : Nat} (tgt : Nat) (ht : (pc : Int) + off = (tgt : Int)) (ha : a ≠ 0) (hd : decode (mB mi) pc = .ok (.ifnonnull off, 3)) (k : PW mi d nf n0 Q tgt ls st n ok mem) : PW mi d nf n0 Q pc ls (vr a :: st) n ok mem := by
  intro p l e R s m args below meth c Z E ad0 H locs ad lsr C hW hS hv h0 h1 hag
  have e1 : tr ad (vr a) = .ref (ad a) := if_neg ha
  rw [List.map_cons, e1]
  exact lv_ifnonnull C.1 C.2.1 hd ht (k p l e R s m args below meth c Z E ad0 H locs ad lsr C hW hS hv h0 h1 hag)
theorem pw_tableIn {dflt lo hi off : Int} {offs : Array Int} {len : Nat} {x : Int} (tgt : Nat) (hd : decode (mB mi) pc = .ok (.tableswitch dflt lo hi offs, len)) (hx : -2147483648 ≤ x ∧ x ≤ 2147483647) (h2 : lo ≤ x) (h3 : x ≤ hi) (ho : offs[(x - lo).toNat]? = some off) (ht : (pc : Int) + off = (tgt : Int)) (k : PW mi d nf n0 Q tgt ls st n ok mem) : PW mi d nf n0 Q pc ls (vi x :: st) n ok mem := by
  intro p l e R s m args below meth c Z E ad0 H locs ad lsr C hW hS hv h0 h1 hag
  have e1 := o_in hx.1 hx.2
  exact lv_tableIn C.1 C.2.1 hd (by rw [e1]; omega) (by rw [e1]; omega) (by rw [e1]; exact ho) ht (k p l e R s m args below meth c Z E ad0 H locs ad lsr C hW hS hv h0 h1 hag)
theorem pw_tableOut {dflt lo hi : Int} {offs : Array Int} {len : Nat} {x : Int} (tgt : Nat) (hd : decode (mB mi) pc = .ok (.tableswitch dflt lo hi offs, len)) (hx : -2147483648 ≤ x ∧ x ≤ 2147483647) (h2 : x < lo ∨ hi < x) (ht : (pc : Int) + dflt = (tgt : Int)) (k : PW mi d nf n0 Q tgt ls st n ok mem) : PW mi d nf n0 Q pc ls (vi x :: st) n ok mem := by
  intro p l e R s m args below meth c Z E ad0 H locs ad lsr C hW hS hv h0 h1 hag
  have e1 := o_in hx.1 hx.2
  exact lv_tableOut C.1 C.2.1 hd (by rw [e1]; exact h2) ht (k p l e R s m args below meth c Z E ad0 H locs ad lsr C hW hS hv h0 h1 hag)
theorem pw_lookup {dflt off : Int} {ps : Array (Int × Int)} {len : Nat} {x : Int} (tgt : Nat) (hd : decode (mB mi) pc = .ok (.lookupswitch dflt ps, len)) (hp : (ps.toList.zip (ps.toList.drop 1)).all (fun (a, next) => a.1 < next.1) = true) (hx : -2147483648 ≤ x ∧ x ≤ 2147483647) (ho : Op.lookupswitch.offset ps.toList dflt x = off) (ht : (pc : Int) + off = (tgt : Int)) (k : PW mi d nf n0 Q tgt ls st n ok mem) : PW mi d nf n0 Q pc ls (vi x :: st) n ok mem := by
  intro p l e R s m args below meth c Z E ad0 H locs ad lsr C hW hS hv h0 h1 hag
  have e1 := o_in hx.1 hx.2
  exact lv_lookup C.1 C.2.1 hd hp (by rw [e1]; exact ho) ht (k p l e R s m args below meth c Z E ad0 H locs ad lsr C hW hS hv h0 h1 hag)
theorem pw_vret (hd : decode (mB mi) pc = .ok (.return_, 1)) (hr : mR mi = none) (hn : n = nf) (hq : Q none ok mem) : PW mi d nf n0 Q pc ls [] n ok mem := by
  intro p l e R s m args below meth c Z E ad0 H locs ad lsr C hW hS hv h0 h1 hag
  subst hn
  exact C.2.2.2.2.2.2.2.2.2.2 none ok mem H locs ad lsr pc hq hW hS hag ⟨hd, hr⟩
theorem pw_iret {x : Int} (hd : decode (mB mi) pc = .ok (.ireturn, 1)) (hr : mR mi = some .int) (hn : n = nf) (hq : Q (some (vi x)) ok mem) : PW mi d nf n0 Q pc ls [vi x] n ok mem := by
  intro p l e R s m args below meth c Z E ad0 H locs ad lsr C hW hS hv h0 h1 hag
  subst hn
  exact C.2.2.2.2.2.2.2.2.2.2 (some (vi x)) ok mem H locs ad lsr pc hq hW hS hag ⟨hd, Or.inl hr⟩
theorem pw_zret {x : Int} (hd : decode (mB mi) pc = .ok (.ireturn, 1)) (hr : mR mi = some .boolean) (hx : x = 0 ∨ x = 1) (hn : n = nf) (hq : Q (some (vi x)) ok mem) : PW mi d nf n0 Q pc ls [vi x] n ok mem := by
  intro p l e R s m args below meth c Z E ad0 H locs ad lsr C hW hS hv h0 h1 hag
  subst hn
  exact C.2.2.2.2.2.2.2.2.2.2 (some (vi x)) ok mem H locs ad lsr pc hq hW hS hag ⟨hd, Or.inr ⟨hr, hx⟩⟩
theorem pw_lret {x : Int} (hd : decode (mB mi) pc = .ok (.lreturn, 1)) (hr : mR mi = some .long) (hn : n = nf) (hq : Q (some (vl x)) ok mem) : PW mi d nf n0 Q pc ls [vl x] n ok mem := by
  intro p l e R s m args below meth c Z E ad0 H locs ad lsr C hW hS hv h0 h1 hag
  subst hn
  exact C.2.2.2.2.2.2.2.2.2.2 (some (vl x)) ok mem H locs ad lsr pc hq hW hS hag ⟨hd, hr⟩
theorem pw_aret {a : Nat} {rC : String} (hd : decode (mB mi) pc = .ok (.areturn, 1)) (hr : mR mi = some (.object rC)) (hn : n = nf) (hq : Q (some (vr a)) ok mem) : PW mi d nf n0 Q pc ls [vr a] n ok mem := by
  intro p l e R s m args below meth c Z E ad0 H locs ad lsr C hW hS hv h0 h1 hag
  subst hn
  exact C.2.2.2.2.2.2.2.2.2.2 (some (vr a)) ok mem H locs ad lsr pc hq hW hS hag ⟨hd, rC, hr⟩
end PB
