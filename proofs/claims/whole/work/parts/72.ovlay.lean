/-! ===== what the reference does depends on its own memory alone ===== -/
def ov (A B : pM) : pM := fun a => if 88 ≤ a ∧ a ≤ 122 then A a else B a
theorem ov_in (A B : pM) {a : Nat} (h1 : 88 ≤ a) (h2 : a ≤ 122) : ov A B a = A a := if_pos ⟨h1, h2⟩
theorem ov_out (A B : pM) {a : Nat} (h : a < 88 ∨ 122 < a) : ov A B a = B a := if_neg (by omega)
theorem ov_id {A B : pM} (h : ∀ a, 88 ≤ a → a ≤ 122 → B a = A a) : ov A B = B := by
  funext a; unfold ov
  by_cases q : 88 ≤ a ∧ a ≤ 122
  · rw [if_pos q, h a q.1 q.2]
  · rw [if_neg q]
theorem ov_wr (A B : pM) {a : Nat} (k x : Int) (h1 : 88 ≤ a) (h2 : a ≤ 122) : wr (ov A B) a k x = ov (wr A a k x) B := by
  funext e j; unfold wr ov
  by_cases q : e = a ∧ j = k
  · rw [if_pos q, if_pos (by omega)]; exact (if_pos q).symm
  · rw [if_neg q]
    by_cases w : 88 ≤ e ∧ e ≤ 122
    · rw [if_pos w, if_pos w]; exact (if_neg q).symm
    · rw [if_neg w, if_neg w]
theorem ov_fi (A B : pM) {a : Nat} (lo k x : Int) (h1 : 88 ≤ a) (h2 : a ≤ 122) : fiM (ov A B) a lo k x = ov (fiM A a lo k x) B := by
  funext e j; unfold fiM ov
  by_cases q : e = a ∧ lo ≤ j ∧ j < lo + k
  · rw [if_pos q, if_pos (by omega)]; exact (if_pos q).symm
  · rw [if_neg q]
    by_cases w : 88 ≤ e ∧ e ≤ 122
    · rw [if_pos w, if_pos w]; exact (if_neg q).symm
    · rw [if_neg w, if_neg w]
theorem ov_bc (A B : pM) {a : Nat} (lo k : Int) (g : Int → Int) (h1 : 88 ≤ a) (h2 : a ≤ 122) : bcM (ov A B) a lo k g = ov (bcM A a lo k g) B := by
  funext e j; unfold bcM ov
  by_cases q : e = a ∧ lo ≤ j ∧ j < lo + k
  · rw [if_pos q, if_pos (by omega)]; exact (if_pos q).symm
  · rw [if_neg q]
    by_cases w : 88 ≤ e ∧ e ≤ 122
    · rw [if_pos w, if_pos w]; exact (if_neg q).symm
    · rw [if_neg w, if_neg w]
theorem ov_cp (A B : pM) {a0 a1 : Nat} (sp dp k : Int) (h1 : 88 ≤ a0) (h2 : a0 ≤ 122) (h3 : 88 ≤ a1) (h4 : a1 ≤ 122) : cpM (ov A B) a0 sp a1 dp k = ov (cpM A a0 sp a1 dp k) B := by
  funext e j; unfold cpM
  by_cases q : e = a1 ∧ dp ≤ j ∧ j < dp + k
  · rw [if_pos q, ov_in A B h1 h2]; unfold ov; rw [if_pos (by omega)]; exact (if_pos q).symm
  · rw [if_neg q]; unfold ov
    by_cases w : 88 ≤ e ∧ e ≤ 122
    · rw [if_pos w, if_pos w]; exact (if_neg q).symm
    · rw [if_neg w, if_neg w]
theorem ov_bk (A B : pM) (src : Nat → Int → Int) (c : Int) : blkF (ov A B) src c = ov (blkF A src c) B := by
  funext e j; unfold blkF blk ov
  by_cases w : 88 ≤ e ∧ e ≤ 122
  · rw [if_pos w, if_pos w]
  · rw [if_neg w, if_neg w, if_neg (by omega)]
theorem ov_s (A B : pM) : sSame A (ov A B) := fun a h1 h2 _ => ov_in A B (by omega) (by omega)
theorem ov_st (A B : pM) (x k p e : Int) : rStand (ov A B) x k p e = ov (rStand A x k p e) B := by
  unfold rStand; simp (disch := omega) only [ov_wr]
theorem ov_more (A B : pM) (c a l k : Int) : rMore (ov A B) c a l k = ov (rMore A c a l k) B := by
  unfold rMore; simp (disch := omega) only [ov_in, ov_wr, ov_fi]
theorem ov_chg (A B : pM) (c : Int) : rChg (ov A B) c = ov (rChg A c) B := by
  unfold rChg; simp (disch := omega) only [ov_in, ov_wr]
theorem ov_notes (A B : pM) (f : Int) : rNotes (ov A B) f = ov (rNotes A f) B := by
  unfold rNotes; simp (disch := omega) only [ov_in, ov_wr]
  split <;> rfl
theorem ov_writes (A B : pM) (f : Int) : rWrites (ov A B) f = ov (rWrites A f) B := by
  unfold rWrites; simp (disch := omega) only [ov_in, ov_wr]
  (repeat' split) <;> rfl
theorem ov_ev (A B : pM) (l : pEv) : rEv (ov A B) l = ov (rEv A l) B := by
  induction l generalizing A with
  | nil => rfl
  | cons q l ih =>
    obtain ⟨t, x⟩ := q
    cases t
    · show rEv (rNotes (ov A B) x) l = ov (rEv (rNotes A x) l) B; rw [ov_notes, ih]
    · show rEv (rWrites (ov A B) x) l = ov (rEv (rWrites A x) l) B; rw [ov_writes, ih]
theorem ov_rWr (A B : pM) (l : List Int) : rWr (ov A B) l = ov (rWr A l) B := by
  induction l generalizing A with
  | nil => rfl
  | cons x l ih => show rWr (rWrites (ov A B) x) l = ov (rWr (rWrites A x) l) B; rw [ov_writes, ih]
theorem ov_emp (A B : pM) (c : Int) : rEmp (ov A B) c = ov (rEmp A c) B := by
  unfold rEmp; simp (disch := omega) only [ov_wr, ov_fi]
theorem ov_parts (A B : pM) (c : Int) (k : Nat) : aParts (ov A B) c k = aParts A c k := by
  induction k with
  | zero => rfl
  | succ k ih => unfold aParts aKind; simp (disch := omega) only [ov_in, ih]
theorem ov_mul (A B : pM) (c w : Int) (k : Nat) : aMul (ov A B) c w k = aMul A c w k := by
  induction k with
  | zero => rfl
  | succ k ih => unfold aMul aKind aSpan; simp (disch := omega) only [ov_in, ih]
theorem ov_at (A B : pM) (c : Int) : aAt (ov A B) c = aAt A c := by funext s; show ov A B 92 _ = A 92 _; rw [ov_in _ _ (by omega) (by omega)]
theorem ov_num (A B : pM) (c : Int) : aNum (ov A B) c 16 = aNum A c 16 := by rw [aNum_V (ov_s A B) c (v := aAt A c) (fun s _ _ => by rw [ov_at]) 16 (by omega), aNum_v A c 16 (by omega)]
theorem ov_comes (A B : pM) (c s : Int) : aComes (ov A B) c s = aComes A c s := by unfold aComes aRow aKind; simp (disch := omega) only [ov_in]
theorem ov_set (A B : pM) (c v : Int) (k : Nat) : rSet (ov A B) c v k = ov (rSet A c v k) B := by
  induction k with
  | zero => rfl
  | succ k ih =>
    unfold rSet aKind aSpan
    simp (disch := omega) only [ov_in, ih, ov_wr, lfN_s (ov_s A B)]
    split <;> rfl
theorem ov_stuck (A B : pM) (c mv : Int) : aStuck (ov A B) c mv = aStuck A c mv := by unfold aStuck; simp (disch := omega) only [ov_in]
theorem ov_met (A B : pM) (c : Int) (v : Int → Int) (k : Int) : hMet (ov A B) c v k = hMet A c v k ∧ hIs (ov A B) c v k = hIs A c v k := by
  have e : hTel (ov A B) c v k = hTel A c v k := by unfold hTel aKind aLook aSpan; simp (disch := omega) only [ov_in]
  have e1 : hMet (ov A B) c v k = hMet A c v k := by unfold hMet; rw [e]; unfold aLook aKind aMany; simp (disch := omega) only [ov_in, ov_comes]
  exact ⟨e1, by unfold hIs; rw [e1, e]; unfold aTru; simp (disch := omega) only [ov_in]⟩
theorem ov_bRes (A B : pM) (c : Int) (v : Int → Int) (mv : Int) : bRes (ov A B) c v mv = bRes A c v mv := by
  have e : bFind (ov A B) c (mv / 2) = bFind A c (mv / 2) := by unfold bFind aKind; simp (disch := omega) only [ov_in, ov_comes]
  unfold bRes
  rw [e, fRes_s (ov_s A B)]
  unfold aKind aSpan
  simp (disch := omega) only [ov_in]
theorem ov_iRes (A B : pM) (c : Int) (v : Int → Int) (mv : Int) : iRes (ov A B) c v mv = iRes A c v mv := by unfold iRes; rw [ov_bRes]
theorem ov_iEv (A B : pM) (c : Int) (v : Int → Int) (mv : Int) : iEv (ov A B) c v mv = iEv A c v mv := by unfold iEv; rw [ov_bRes]
theorem ov_oEv (A B : pM) (c : Int) (v : Int → Int) : oEv (ov A B) c v = oEv A c v := by
  unfold oEv; rw [fRes_s (ov_s A B), anyO_s (ov_s A B)]; unfold aNc; simp (disch := omega) only [ov_in]
theorem ov_keep (A B : pM) (c x : Int) : rKeep (ov A B) c x = ov (rKeep A c x) B := by
  unfold rKeep; simp (disch := omega) only [ov_in, ov_wr, ov_cp]
  split <;> rfl
theorem ov_keepAll (A B : pM) (c : Int) (k : Nat) : rKeepAll (ov A B) c k = ov (rKeepAll A c k) B := by
  induction k with
  | zero => rfl
  | succ k ih => show rKeep (rKeepAll (ov A B) c k) c (ov A B 107 k) = ov (rKeep (rKeepAll A c k) c (A 107 k)) B; rw [ih, ov_in _ _ (by omega) (by omega), ov_keep]
/-! pairs of answer and memory -/
def pOv (p : Int × pM) (B : pM) : Int × pM := (p.1, ov p.2 B)
theorem pOv_if {c : Prop} [Decidable c] (a b : Int × pM) (B : pM) : pOv (if c then a else b) B = if c then pOv a B else pOv b B := by split <;> rfl
theorem pOv_ref (A B : pM) (x : Int) : rRef (ov A B) x = pOv (rRef A x) B := by unfold rRef pOv; rw [ov_wr _ _ _ _ (by omega) (by omega)]
theorem pOv_say (A B : pM) (x : Int) : rSay (ov A B) x = pOv (rSay A x) B := by unfold rSay pOv; rw [ov_wr _ _ _ _ (by omega) (by omega)]
theorem pOv_met (A B : pM) (x : Int) : rMet (ov A B) x = pOv (rMet A x) B := by unfold rMet pOv; rw [ov_notes, ov_wr _ _ _ _ (by omega) (by omega)]
theorem rRow_ov (A B : pM) (c w k : Int) : rRow (ov A B) c w k = pOv (rRow A c w k) B := by
  unfold rRow
  simp (disch := omega) only [ov_in, ov_wr, ov_fi, ov_bc, ov_cp, ov_bk, ov_st, ov_more, ov_chg, ov_notes, ov_ev, ov_rWr, ov_emp, ov_parts, ov_mul, ov_at, ov_num, ov_comes, ov_set, ov_bRes, ov_iRes, ov_iEv, ov_oEv, oRes_s (ov_s A B), pOv_if, pOv_ref, pOv_say, pOv_met]
  (repeat' split) <;> rfl
theorem rPart_ov (A B : pM) (c s k p e : Int) : rPart (ov A B) c s k p e = pOv (rPart A c s k p e) B := by
  unfold rPart
  simp (disch := omega) only [ov_in, ov_wr, ov_fi, ov_bc, ov_cp, ov_bk, ov_st, ov_more, ov_chg, ov_notes, ov_ev, ov_rWr, ov_emp, ov_parts, ov_mul, ov_at, ov_num, ov_comes, ov_set, ov_bRes, ov_iRes, ov_iEv, ov_oEv, oRes_s (ov_s A B), pOv_if, pOv_ref, pOv_say, pOv_met]
theorem rTake_ov (A B : pM) (c s : Int) : rTake (ov A B) c s = pOv (rTake A c s) B := by
  unfold rTake
  simp (disch := omega) only [ov_in, ov_wr, ov_fi, ov_bc, ov_cp, ov_bk, ov_st, ov_more, ov_chg, ov_notes, ov_ev, ov_rWr, ov_emp, ov_parts, ov_mul, ov_at, ov_num, ov_comes, ov_set, ov_bRes, ov_iRes, ov_iEv, ov_oEv, oRes_s (ov_s A B), pOv_if, pOv_ref, pOv_say, pOv_met]
theorem rCond_ov (A B : pM) (c a l k : Int) : rCond (ov A B) c a l k = pOv (rCond A c a l k) B := by
  unfold rCond
  simp (disch := omega) only [ov_in, ov_wr, ov_fi, ov_bc, ov_cp, ov_bk, ov_st, ov_more, ov_chg, ov_notes, ov_ev, ov_rWr, ov_emp, ov_parts, ov_mul, ov_at, ov_num, ov_comes, ov_set, ov_bRes, ov_iRes, ov_iEv, ov_oEv, oRes_s (ov_s A B), pOv_if, pOv_ref, pOv_say, pOv_met]
theorem rTruth_ov (A B : pM) (c k i v : Int) : rTruth (ov A B) c k i v = pOv (rTruth A c k i v) B := by
  unfold rTruth
  simp (disch := omega) only [ov_in, ov_wr, ov_fi, ov_bc, ov_cp, ov_bk, ov_st, ov_more, ov_chg, ov_notes, ov_ev, ov_rWr, ov_emp, ov_parts, ov_mul, ov_at, ov_num, ov_comes, ov_set, ov_bRes, ov_iRes, ov_iEv, ov_oEv, oRes_s (ov_s A B), pOv_if, pOv_ref, pOv_say, pOv_met]
theorem rCpT_ov (A B : pM) (c a i b j k : Int) : rCpT (ov A B) c a i b j k = pOv (rCpT A c a i b j k) B := by
  unfold rCpT
  simp (disch := omega) only [ov_in, ov_wr, ov_fi, ov_bc, ov_cp, ov_bk, ov_st, ov_more, ov_chg, ov_notes, ov_ev, ov_rWr, ov_emp, ov_parts, ov_mul, ov_at, ov_num, ov_comes, ov_set, ov_bRes, ov_iRes, ov_iEv, ov_oEv, oRes_s (ov_s A B), pOv_if, pOv_ref, pOv_say, pOv_met]
theorem rJam_ov (A B : pM) (c j s : Int) : rJam (ov A B) c j s = pOv (rJam A c j s) B := by
  unfold rJam
  simp (disch := omega) only [ov_in, ov_wr, ov_fi, ov_bc, ov_cp, ov_bk, ov_st, ov_more, ov_chg, ov_notes, ov_ev, ov_rWr, ov_emp, ov_parts, ov_mul, ov_at, ov_num, ov_comes, ov_set, ov_bRes, ov_iRes, ov_iEv, ov_oEv, oRes_s (ov_s A B), pOv_if, pOv_ref, pOv_say, pOv_met]
theorem rClear_ov (A B : pM) (c : Int) : rClear (ov A B) c = pOv (rClear A c) B := by
  unfold rClear
  simp (disch := omega) only [ov_in, ov_wr, ov_fi, ov_bc, ov_cp, ov_bk, ov_st, ov_more, ov_chg, ov_notes, ov_ev, ov_rWr, ov_emp, ov_parts, ov_mul, ov_at, ov_num, ov_comes, ov_set, ov_bRes, ov_iRes, ov_iEv, ov_oEv, oRes_s (ov_s A B), pOv_if, pOv_ref, pOv_say, pOv_met]
theorem chB_ov (A B : pM) (c a0 : Int) (M : pM) : blkF M (chB (ov A B) a0) c = blkF M (chB A a0) c := by
  funext a j; unfold blkF blk
  by_cases q : 89 ≤ a ∧ a ≤ 98 ∧ sta a c ≤ j ∧ j < sta a c + kk 4 16 1 40 240 a
  · rw [if_pos q, if_pos q]; unfold chB; rw [ov_in _ _ (by omega) (by omega)]
  · rw [if_neg q, if_neg q]
theorem rCopy_ov (A B : pM) (a b : Int) : rCopy (ov A B) a b = pOv (rCopy A a b) B := by
  unfold rCopy rCopyTo
  simp (disch := omega) only [chB_ov, ov_in, ov_wr, ov_bk, ov_chg, ov_parts, pOv_if, pOv_ref, pOv_say]
theorem rTold_ov (A B : pM) (c s w : Int) : rTold (ov A B) c s w = pOv (rTold A c s w) B := by
  unfold rTold
  simp (disch := omega) only [ov_in, ov_wr, ov_fi, ov_bc, ov_cp, ov_bk, ov_st, ov_more, ov_chg, ov_notes, ov_ev, ov_rWr, ov_emp, ov_parts, ov_mul, ov_at, ov_num, ov_comes, ov_set, ov_bRes, ov_iRes, ov_iEv, ov_oEv, oRes_s (ov_s A B), pOv_if, pOv_ref, pOv_say, pOv_met]
theorem rCTold_ov (A B : pM) (c k w : Int) : rCTold (ov A B) c k w = pOv (rCTold A c k w) B := by
  unfold rCTold
  simp (disch := omega) only [ov_in, ov_wr, ov_fi, ov_bc, ov_cp, ov_bk, ov_st, ov_more, ov_chg, ov_notes, ov_ev, ov_rWr, ov_emp, ov_parts, ov_mul, ov_at, ov_num, ov_comes, ov_set, ov_bRes, ov_iRes, ov_iEv, ov_oEv, oRes_s (ov_s A B), pOv_if, pOv_ref, pOv_say, pOv_met]
theorem rPlace_ov (A B : pM) (c s t : Int) : rPlace (ov A B) c s t = pOv (rPlace A c s t) B := by
  unfold rPlace
  simp (disch := omega) only [ov_in, ov_wr, ov_fi, ov_bc, ov_cp, ov_bk, ov_st, ov_more, ov_chg, ov_notes, ov_ev, ov_rWr, ov_emp, ov_parts, ov_mul, ov_at, ov_num, ov_comes, ov_set, ov_bRes, ov_iRes, ov_iEv, ov_oEv, oRes_s (ov_s A B), pOv_if, pOv_ref, pOv_say, pOv_met]
theorem rType_ov (A B : pM) (v : Int) : rType (ov A B) v = pOv (rType A v) B := by
  unfold rType
  simp (disch := omega) only [ov_in, ov_wr, ov_fi, ov_bc, ov_cp, ov_bk, ov_st, ov_more, ov_chg, ov_notes, ov_ev, ov_rWr, ov_emp, ov_parts, ov_mul, ov_at, ov_num, ov_comes, ov_set, ov_bRes, ov_iRes, ov_iEv, ov_oEv, oRes_s (ov_s A B), pOv_if, pOv_ref, pOv_say, pOv_met]
theorem rUntype_ov (A B : pM) : rUntype (ov A B) = pOv (rUntype A) B := by
  unfold rUntype
  simp (disch := omega) only [ov_in, ov_wr, ov_fi, ov_bc, ov_cp, ov_bk, ov_st, ov_more, ov_chg, ov_notes, ov_ev, ov_rWr, ov_emp, ov_parts, ov_mul, ov_at, ov_num, ov_comes, ov_set, ov_bRes, ov_iRes, ov_iEv, ov_oEv, oRes_s (ov_s A B), pOv_if, pOv_ref, pOv_say, pOv_met]
theorem rAttd_ov (A B : pM) (w : Int) : rAttd (ov A B) w = pOv (rAttd A w) B := by
  unfold rAttd
  simp (disch := omega) only [ov_in, ov_wr, ov_fi, ov_bc, ov_cp, ov_bk, ov_st, ov_more, ov_chg, ov_notes, ov_ev, ov_rWr, ov_emp, ov_parts, ov_mul, ov_at, ov_num, ov_comes, ov_set, ov_bRes, ov_iRes, ov_iEv, ov_oEv, oRes_s (ov_s A B), pOv_if, pOv_ref, pOv_say, pOv_met]
theorem rProduct_ov (A B : pM) (c : Int) : rProduct (ov A B) c = pOv (rProduct A c) B := by
  unfold rProduct
  simp (disch := omega) only [ov_in, ov_wr, ov_fi, ov_bc, ov_cp, ov_bk, ov_st, ov_more, ov_chg, ov_notes, ov_ev, ov_rWr, ov_emp, ov_parts, ov_mul, ov_at, ov_num, ov_comes, ov_set, ov_bRes, ov_iRes, ov_iEv, ov_oEv, oRes_s (ov_s A B), pOv_if, pOv_ref, pOv_say, pOv_met]
theorem rState_ov (A B : pM) (c : Int) : rState (ov A B) c = pOv (rState A c) B := by
  unfold rState
  simp (disch := omega) only [ov_in, ov_wr, ov_fi, ov_bc, ov_cp, ov_bk, ov_st, ov_more, ov_chg, ov_notes, ov_ev, ov_rWr, ov_emp, ov_parts, ov_mul, ov_at, ov_num, ov_comes, ov_set, ov_bRes, ov_iRes, ov_iEv, ov_oEv, oRes_s (ov_s A B), pOv_if, pOv_ref, pOv_say, pOv_met]
theorem rOfN_ov (A B : pM) (c v : Int) : rOfN (ov A B) c v = pOv (rOfN A c v) B := by
  unfold rOfN
  simp (disch := omega) only [ov_in, ov_wr, ov_fi, ov_bc, ov_cp, ov_bk, ov_st, ov_more, ov_chg, ov_notes, ov_ev, ov_rWr, ov_emp, ov_parts, ov_mul, ov_at, ov_num, ov_comes, ov_set, ov_bRes, ov_iRes, ov_iEv, ov_oEv, oRes_s (ov_s A B), pOv_if, pOv_ref, pOv_say, pOv_met]
theorem rBack_ov (A B : pM) (c : Int) : rBack (ov A B) c = pOv (rBack A c) B := by
  unfold rBack
  simp (disch := omega) only [ov_in, ov_wr, ov_fi, ov_bc, ov_cp, ov_bk, ov_st, ov_more, ov_chg, ov_notes, ov_ev, ov_rWr, ov_emp, ov_parts, ov_mul, ov_at, ov_num, ov_comes, ov_set, ov_bRes, ov_iRes, ov_iEv, ov_oEv, oRes_s (ov_s A B), pOv_if, pOv_ref, pOv_say, pOv_met]
theorem rTell_ov (A B : pM) (c s : Int) : rTell (ov A B) c s = pOv (rTell A c s) B := by
  unfold rTell
  simp (disch := omega) only [ov_in, ov_wr, ov_fi, ov_bc, ov_cp, ov_bk, ov_st, ov_more, ov_chg, ov_notes, ov_ev, ov_rWr, ov_emp, ov_parts, ov_mul, ov_at, ov_num, ov_comes, ov_set, ov_bRes, ov_iRes, ov_iEv, ov_oEv, oRes_s (ov_s A B), pOv_if, pOv_ref, pOv_say, pOv_met]
theorem rMay_ov (A B : pM) (c v z : Int) : rMay (ov A B) c v z = pOv (rMay A c v z) B := by
  unfold rMay
  simp (disch := omega) only [ov_in, ov_wr, ov_fi, ov_bc, ov_cp, ov_bk, ov_st, ov_more, ov_chg, ov_notes, ov_ev, ov_rWr, ov_emp, ov_parts, ov_mul, ov_at, ov_num, ov_comes, ov_set, ov_bRes, ov_iRes, ov_iEv, ov_oEv, oRes_s (ov_s A B), pOv_if, pOv_ref, pOv_say, pOv_met]
theorem rBarred_ov (A B : pM) (c v z : Int) : rBarred (ov A B) c v z = pOv (rBarred A c v z) B := by
  unfold rBarred
  simp (disch := omega) only [ov_in, ov_wr, ov_fi, ov_bc, ov_cp, ov_bk, ov_st, ov_more, ov_chg, ov_notes, ov_ev, ov_rWr, ov_emp, ov_parts, ov_mul, ov_at, ov_num, ov_comes, ov_set, ov_bRes, ov_iRes, ov_iEv, ov_oEv, oRes_s (ov_s A B), pOv_if, pOv_ref, pOv_say, pOv_met]
theorem rIsOpen_ov (A B : pM) (c z : Int) : rIsOpen (ov A B) c z = pOv (rIsOpen A c z) B := by
  unfold rIsOpen
  simp (disch := omega) only [ov_in, ov_wr, ov_fi, ov_bc, ov_cp, ov_bk, ov_st, ov_more, ov_chg, ov_notes, ov_ev, ov_rWr, ov_emp, ov_parts, ov_mul, ov_at, ov_num, ov_comes, ov_set, ov_bRes, ov_iRes, ov_iEv, ov_oEv, oRes_s (ov_s A B), pOv_if, pOv_ref, pOv_say, pOv_met]
theorem rHolds_ov (A B : pM) (c k z : Int) : rHolds (ov A B) c k z = pOv (rHolds A c k z) B := by
  unfold rHolds
  simp (disch := omega) only [ov_at, (ov_met A B c (aAt A c) k).1, (ov_met A B c (aAt A c) k).2, ov_in, ov_wr, pOv_if, pOv_ref, pOv_say, pOv_met]
theorem rMarked_ov (A B : pM) (x : Int) : rMarked (ov A B) x = pOv (rMarked A x) B := by
  unfold rMarked
  simp (disch := omega) only [ov_in, ov_wr, ov_fi, ov_bc, ov_cp, ov_bk, ov_st, ov_more, ov_chg, ov_notes, ov_ev, ov_rWr, ov_emp, ov_parts, ov_mul, ov_at, ov_num, ov_comes, ov_set, ov_bRes, ov_iRes, ov_iEv, ov_oEv, oRes_s (ov_s A B), pOv_if, pOv_ref, pOv_say, pOv_met]
theorem rShown_ov (A B : pM) (w : Int) : rShown (ov A B) w = pOv (rShown A w) B := by
  unfold rShown
  simp (disch := omega) only [ov_in, ov_wr, ov_fi, ov_bc, ov_cp, ov_bk, ov_st, ov_more, ov_chg, ov_notes, ov_ev, ov_rWr, ov_emp, ov_parts, ov_mul, ov_at, ov_num, ov_comes, ov_set, ov_bRes, ov_iRes, ov_iEv, ov_oEv, oRes_s (ov_s A B), pOv_if, pOv_ref, pOv_say, pOv_met]
theorem mkG_ov (A B : pM) (f v : Int) (k : Nat) : mkG (ov A B) f v k = mkG A f v k := by
  induction k with
  | zero => rfl
  | succ k ih => unfold mkG; simp (disch := omega) only [ov_in, ih]
theorem rMark_ov (A B : pM) (f k v : Int) : rMark (ov A B) f k v = pOv (rMark A f k v) B := by
  unfold rMark
  simp (disch := omega) only [mkG_ov, ov_in, ov_wr, ov_fi, pOv_if, pOv_ref, pOv_say]
theorem rMarkAll_ov (A B : pM) : rMarkAll (ov A B) = pOv (rMarkAll A) B := by
  unfold rMarkAll
  rw [maM_bc, maM_bc]
  simp (disch := omega) only [ov_in, ov_wr, ov_bc, pOv_if, pOv_ref, pOv_say]
theorem rOrdered_ov (A B : pM) (x : Int) : rOrdered (ov A B) x = pOv (rOrdered A x) B := by
  unfold rOrdered
  simp (disch := omega) only [ov_in, ov_wr, ov_fi, ov_bc, ov_cp, ov_bk, ov_st, ov_more, ov_chg, ov_notes, ov_ev, ov_rWr, ov_emp, ov_parts, ov_mul, ov_at, ov_num, ov_comes, ov_set, ov_bRes, ov_iRes, ov_iEv, ov_oEv, oRes_s (ov_s A B), pOv_if, pOv_ref, pOv_say, pOv_met]
theorem rLayer_ov (A B : pM) (x : Int) : rLayer (ov A B) x = pOv (rLayer A x) B := by
  unfold rLayer
  simp (disch := omega) only [ov_in, ov_wr, ov_fi, ov_bc, ov_cp, ov_bk, ov_st, ov_more, ov_chg, ov_notes, ov_ev, ov_rWr, ov_emp, ov_parts, ov_mul, ov_at, ov_num, ov_comes, ov_set, ov_bRes, ov_iRes, ov_iEv, ov_oEv, oRes_s (ov_s A B), pOv_if, pOv_ref, pOv_say, pOv_met]
theorem rShortest_ov (A B : pM) : rShortest (ov A B) = pOv (rShortest A) B := by
  unfold rShortest
  simp (disch := omega) only [ov_in, ov_wr, ov_fi, ov_bc, ov_cp, ov_bk, ov_st, ov_more, ov_chg, ov_notes, ov_ev, ov_rWr, ov_emp, ov_parts, ov_mul, ov_at, ov_num, ov_comes, ov_set, ov_bRes, ov_iRes, ov_iEv, ov_oEv, oRes_s (ov_s A B), pOv_if, pOv_ref, pOv_say, pOv_met]
theorem rSearched_ov (A B : pM) (w : Int) : rSearched (ov A B) w = pOv (rSearched A w) B := by
  unfold rSearched
  simp (disch := omega) only [ov_in, ov_wr, ov_fi, ov_bc, ov_cp, ov_bk, ov_st, ov_more, ov_chg, ov_notes, ov_ev, ov_rWr, ov_emp, ov_parts, ov_mul, ov_at, ov_num, ov_comes, ov_set, ov_bRes, ov_iRes, ov_iEv, ov_oEv, oRes_s (ov_s A B), pOv_if, pOv_ref, pOv_say, pOv_met]
theorem anc_ov (A B : pM) (k : Nat) (q : Int) : ancG (ov A B) k q = ancG A k q := by
  induction k generalizing q with
  | zero => rfl
  | succ k ih => show ancG (ov A B) k (ov A B 112 q) = ancG A k (A 112 q); rw [ih, ov_in _ _ (by omega) (by omega)]
theorem wOrd_ov (A B : pM) (k : Int) : wOrd (ov A B) k = wOrd A k := by unfold wOrd; simp (disch := omega) only [ov_in, anc_ov]
theorem rWay_ov (A B : pM) (k : Int) : rWay (ov A B) k = pOv (rWay A k) B := by unfold rWay; rw [pOv_say, wOrd_ov]; simp (disch := omega) only [ov_in]
theorem rAlong_ov (A B : pM) (k : Int) : rAlong (ov A B) k = pOv (rAlong A k) B := by unfold rAlong; rw [pOv_say, wOrd_ov]; simp (disch := omega) only [ov_in]
theorem rTrace_ov (A B : pM) (i : Int) : rTrace (ov A B) i = rTrace A i := by unfold rTrace; simp (disch := omega) only [ov_in]
theorem cnM_ov (A B : pM) (k : Nat) : cnM (ov A B) k = cnM A k := by
  induction k with
  | zero => rfl
  | succ k ih => unfold cnM; simp (disch := omega) only [ov_in, ih]
theorem rCount_ov (A B : pM) (w : Int) : rCount (ov A B) w = rCount A w := by unfold rCount; simp (disch := omega) only [ov_in, ov_parts, cnM_ov]
theorem rOut_ov (A B : pM) (i : Int) : rOut (ov A B) i = rOut A i := by unfold rOut; simp (disch := omega) only [ov_in]
theorem wA_ov (A B : pM) (c : Int) : wA (ov A B) c = wA A c := wA_c (fun a h1 h2 => ov_in _ _ (by omega) (by omega)) c
theorem rAlike_ov (A B : pM) (a b : Int) : rAlike (ov A B) a b = rAlike A a b := by unfold rAlike; rw [wA_ov, wA_ov]
theorem rDigest_ov (A B : pM) (c : Int) : rDigest (ov A B) c = rDigest A c := by unfold rDigest; rw [wA_ov]
/-! moves -/
theorem mvRes_ov (A B : pM) (c mv : Int) : (mvRes (ov A B) c mv).1 = (mvRes A c mv).1 ∧ (mvRes (ov A B) c mv).2.1 = ov (mvRes A c mv).2.1 B ∧ (mvRes (ov A B) c mv).2.2 = (mvRes A c mv).2.2 := by
  unfold mvRes
  simp only [ov_at, ov_iRes, ov_iEv, ov_stuck, ov_num, ov_keep, dRes_s (ov_s A B)]
  by_cases q : iRes A c (aAt A c) mv = 0
  · rw [if_pos q, if_pos q]; exact ⟨rfl, rfl, rfl⟩
  · rw [if_neg q, if_neg q]
    by_cases w : aStuck A c mv ≠ 0
    · rw [if_pos w, if_pos w]; exact ⟨rfl, rfl, rfl⟩
    · rw [if_neg w, if_neg w]; exact ⟨rfl, rfl, rfl⟩
theorem rnGo_ov (A B : pM) (c : Int) (f k : Nat) (S : pM) (v : Int → Int) (ev : pEv) : rnGo (ov A B) c f k (ov S B) v ev = ((rnGo A c f k S v ev).1, ov (rnGo A c f k S v ev).2.1 B, (rnGo A c f k S v ev).2.2) := by
  induction f generalizing k S v ev with
  | zero => rfl
  | succ f ih =>
    rw [rnGo_succ, rnGo_succ]
    simp (disch := omega) only [ov_in, ov_iRes, ov_iEv, ov_stuck, ov_wr, dRes_s (ov_s A B), numV_s (ov_s A B), ih]
    by_cases q : iRes A c v (A 106 k) = 0
    · rw [if_pos q, if_pos q]
    · rw [if_neg q, if_neg q]
      by_cases w : aStuck A c (A 106 k) ≠ 0
      · rw [if_pos w, if_pos w]
      · rw [if_neg w, if_neg w]
theorem rnRes_ov (A B : pM) (c : Int) : rnRes (ov A B) c = ((rnRes A c).1, ov (rnRes A c).2.1 B, (rnRes A c).2.2) := by
  unfold rnRes
  rw [ov_in _ _ (by omega) (by omega), ov_wr _ _ _ _ (by omega) (by omega), ov_at, rnGo_ov]
theorem attB_ov (A B : pM) (c : Int) : attB (ov A B) c = ov (attB A c) B := by
  unfold attB; rw [rnRes_ov]; simp (disch := omega) only [ov_in, ov_wr]
theorem attRes_ov (A B : pM) (c : Int) : (attRes (ov A B) c).1 = (attRes A c).1 ∧ (attRes (ov A B) c).2.1 = ov (attRes A c).2.1 B ∧ (attRes (ov A B) c).2.2 = (attRes A c).2.2 := by
  unfold attRes
  simp (disch := omega) only [rnRes_ov, ov_in, attB_ov, setV_s (ov_s A B), ov_num, oRes_s (ov_s A B), ov_oEv, ov_keepAll]
  by_cases q : ((rnRes A c).1 : Int) < A 88 24
  · rw [if_pos q, if_pos q]; exact ⟨rfl, rfl, rfl⟩
  · rw [if_neg q, if_neg q]
    by_cases w : oRes A c (rnRes A c).2.2.1 = 0
    · rw [if_pos w, if_pos w]; exact ⟨rfl, rfl, rfl⟩
    · rw [if_neg w, if_neg w]; exact ⟨rfl, rfl, rfl⟩
/-! searches -/
theorem cmB_ov (S B : pM) (u l f y op : Int) : cmB (ov S B) u l f y op = ov (cmB S u l f y op) B := by
  unfold cmB cmN; simp (disch := omega) only [ov_in, ov_wr]
  split <;> rfl
theorem bgB_ov (A B : pM) (c : Int) : bgB (ov A B) c = ov (bgB A c) B := by
  unfold bgB bgQ; simp (disch := omega) only [ov_num, oRes_s (ov_s A B), ov_at, ov_wr, ov_fi, cmB_ov]
theorem ldB_ov (A S B : pM) (c tk x mv : Int) : ldB (ov A B) c (ov S B) tk x mv = ov (ldB A c S tk x mv) B := by
  unfold ldB; simp (disch := omega) only [mvN_s (ov_s A B), opN_s (ov_s A B), ov_in, cmB_ov, ov_wr]
  split <;> rfl
theorem lmB_ov (A S B : pM) (c tk x : Int) (k : Nat) : lmB (ov A B) c (ov S B) tk x k = ov (lmB A c S tk x k) B := by
  induction k with
  | zero => rfl
  | succ k ih => show ldB (ov A B) c (lmB (ov A B) c (ov S B) tk x k) tk x k = ov (ldB A c (lmB A c S tk x k) tk x k) B; rw [ih, ldB_ov]
theorem tkB_ov (A S B : pM) (c : Int) : tkB (ov A B) c (ov S B) = ov (tkB A c S) B := by
  unfold tkB; simp (disch := omega) only [ov_in, lmB_ov, ov_wr]
theorem goB_ov (A S B : pM) (c : Int) (f : Nat) : goB (ov A B) c f (ov S B) = ov (goB A c f S) B := by
  induction f generalizing S with
  | zero => rfl
  | succ f ih =>
    rw [goB_succ, goB_succ, ov_in _ _ (by omega) (by omega), tkB_ov, ih]
    split <;> rfl
theorem goR_ov (A B : pM) (c k : Int) : goR (ov A B) c k = ov (goR A c k) B := by
  unfold goR; simp (disch := omega) only [ov_wr, goB_ov]
theorem rSearch_ov (A B : pM) (c k : Int) : rSearch (ov A B) c k = pOv (rSearch A c k) B := by
  unfold rSearch; simp (disch := omega) only [bgB_ov, goR_ov, ov_in, pOv_if, pOv_ref, pOv_say]
theorem rGoOn_ov (A B : pM) (k : Int) : rGoOn (ov A B) k = pOv (rGoOn A k) B := by
  unfold rGoOn; simp (disch := omega) only [goR_ov, ov_in, pOv_if, pOv_ref, pOv_say]
theorem stP_ov (A B : pM) (c k : Int) : stP (ov A B) c k = ov (stP A c k) B := by
  unfold stP; simp (disch := omega) only [ov_in, ov_wr, ov_st]
theorem nst_ov (A B : pM) (c : Int) (k : Nat) : nst (ov A B) c k = ov (nst A c k) B := by
  induction k with
  | zero => rfl
  | succ k ih => show stP (nst (ov A B) c k) c k = ov (stP (nst A c k) c k) B; rw [ih, stP_ov]
theorem trG_ov (A B : pM) (q : Int) (k : Nat) (N : Int) (i : Nat) : trG (ov A B) q k N i = ov (trG A q k N i) B := by
  induction i with
  | zero => rfl
  | succ i ih =>
    unfold trG
    simp (disch := omega) only [ih, ov_in, ov_wr]
    split <;> rfl
theorem cdS_ov (A B : pM) (c : Int) (k : Nat) : cdS (ov A B) c k = ov (cdS A c k) B := by
  have e1 : cdX (ov A B) k = cdX A k := by unfold cdX; simp (disch := omega) only [ov_in]
  have e2 : cdA (ov A B) k = cdA A k := by unfold cdA; simp (disch := omega) only [ov_in]
  have e3 : cdL (ov A B) k = cdL A k := by unfold cdL; rw [e1]
  have e4 : cdN (ov A B) c k = cdN A c k := by unfold cdN; rw [e3]; simp (disch := omega) only [ov_in]
  have e5 : cdM (ov A B) c k = ov (cdM A c k) B := by unfold cdM; rw [e1, e2, e3, e4]; simp (disch := omega) only [ov_wr, ov_more]
  unfold cdS
  rw [e4, e5, ov_in _ _ (by omega) (by omega), trG_ov]
theorem ncd_ov (A B : pM) (c : Int) (k : Nat) : ncd (ov A B) c k = ov (ncd A c k) B := by
  induction k with
  | zero => rfl
  | succ k ih => show cdS (ncd (ov A B) c k) c k = ov (cdS (ncd A c k) c k) B; rw [ih, cdS_ov]
theorem byM_ov (A B : pM) (c x : Int) : byM (ov A B) c x = ov (byM A c x) B := by
  unfold byM by0; simp (disch := omega) only [ov_wr, ov_fi, ov_bc, nst_ov, ncd_ov]
theorem mkS_ov (A B : pM) (c y : Int) : mkS (ov A B) c y = ov (mkS A c y) B := by
  unfold mkS; rw [byM_ov, bgB_ov, goR_ov]
theorem mkL_ov (A B : pM) (c x mv : Int) (f : Nat) (k : Int) : mkL c x mv f k (ov A B) = ((mkL c x mv f k A).1, ov (mkL c x mv f k A).2 B) := by
  induction f generalizing k A with
  | zero => rfl
  | succ f ih =>
    rw [mkL_s, mkL_s]
    simp (disch := omega) only [mkS_ov, ov_in, ih]
    split <;> rfl
theorem rMake_ov (A B : pM) (c x mv : Int) : rMake (ov A B) c x mv = pOv (rMake A c x mv) B := by
  unfold rMake
  simp (disch := omega) only [mkL_ov, ov_wr, chB_ov, ov_bk, pOv_if, pOv_ref]
  by_cases q : (mkL c x mv 6 0 A).1 = -1
  · simp only [if_pos q, pOv_say]
  · simp only [if_neg q, pOv_say]
theorem rShows_ov (A B : pM) (c : Int) : rShows (ov A B) c = pOv (rShows A c) B := by
  unfold rShows rLook
  simp (disch := omega) only [ov_num, rOver_s (ov_s A B) (ov_in A B (by omega) (by omega)), ov_wr, pOv_if, pOv_ref, pOv_say]
theorem rTrap_ov (A B : pM) (f : Int → Int) (x : Int) : rTrap (ov A B) f x = rTrap A f x := by unfold rTrap; simp (disch := omega) only [ov_in]
theorem rTraps_ov (A B : pM) (f : Int → Int) : rTraps (ov A B) f = rTraps A f := by unfold rTraps; simp (disch := omega) only [ov_in]
theorem fj_ov (A B : pM) (f : Int → Int) (o : Int) (g : Nat) (j : Int) : fj (ov A B) f o g j = fj A f o g j := by
  induction g generalizing j with
  | zero => rfl
  | succ g ih => rw [fj_s, fj_s, ov_in _ _ (by omega) (by omega), ih]
theorem rHint_ov (A B : pM) (f : Int → Int) (c : Int) : rHint (ov A B) f c = rHint A f c := by unfold rHint; simp (disch := omega) only [ov_in, ov_num, fj_ov]
theorem rdR_ov (A B : pM) : rdR (ov A B) = rdR A := by unfold rdR; simp (disch := omega) only [ov_in]
