
/-! GrownAsks: the texts' calls, and set -/
def txM (M : MS) (t : Nat) (B : Nat → Int32) (s : pT) (len : Nat) : MS := mkM M.f M.nr (fset M.B t B) (fset M.s t s) (fset M.len t len) M.P M.ru M.fa M.fd M.I M.fm M.sz
def pwB (s : pT) : Bool := s.2.2.2.2.1 == -1 && (s.2.1 == 0 && s.2.2.1 == 0)
theorem pwB_iff {s : pT} : pwB s = true ↔ pw s := by simp [pwB, pw]
section C2
variable {n : Nat} {h : aH} {Q : aQ} {M : MS}
theorem CInv.tx {t : Nat} (c : CInv h M) (ht : t < 2) : TxI h (4 + 6 * t) (M.B t) (M.s t) (M.len t) := by
  rcases (by omega : t = 0 ∨ t = 1) with rfl | rfl
  · exact c.t0
  · exact c.t1
theorem CInv.uTx {h' : aH} {t : Nat} {B : Nat → Int32} {s : pT} {len : Nat} (ht : t < 2) (x : TxI h' (4 + 6 * t) B s len) (c : CInv h M) (k : sOff h h' (4 + 6 * t) (4 + 6 * t + 6)) : CInv h' (txM M t B s len) := by
  rcases (by omega : t = 0 ∨ t = 1) with rfl | rfl
  · exact CInv.uT0 x c k
  · exact CInv.uT1 x c k
theorem K_text {x : Int32} (c : CInv h M) (hq0 : ∀ t, t < 2 → x = nI t → Q (some (.ref (4 + 6 * t))) n h) (hq2 : ¬ (0 ≤ x ∧ x < 2) → Q (some .null) n h) : Ok 122 [.ref 0, .int x] n h Q := by
  refine K_textOf c (fun e => hq0 0 (by omega) e) (fun e => hq0 1 (by omega) e) (fun e0 e1 => hq2 (fun q => ?_))
  obtain ⟨j, hj, rfl⟩ := i_of (n := 2) (by omega) (i_nlt.mpr q.1) q.2
  rcases (by omega : j = 0 ∨ j = 1) with rfl | rfl
  · exact e0 rfl
  · exact e1 rfl
theorem t2 {t : Nat} (h : t < 2) : 0 ≤ nI t ∧ nI t < 2 := ⟨(i_le (a := 0) (by omega) (by omega)).mpr (by omega), (i_lt (b := 2) (by omega) (by omega)).mpr h⟩
def stType (M : MS) (x b : Int32) : Int32 × MS := if (0 ≤ x ∧ x < 2) ∧ 0 ≤ b ∧ b ≤ 255 then (if M.len x.toNatClampNeg < 40 then (nI (M.len x.toNatClampNeg + 1), txM M x.toNatClampNeg (upd (M.B x.toNatClampNeg) (M.len x.toNatClampNeg) b) (pstep (M.s x.toNatClampNeg) (M.len x.toNatClampNeg) b) (M.len x.toNatClampNeg + 1)) else (-4, M)) else (-2, M)
set_option maxRecDepth 100000 in
set_option maxHeartbeats 400000 in
theorem K_type {x b : Int32} (c : CInv h M) (m : MOk M) (hq : ∀ h', CInv h' (stType M x b).2 → sOff h h' 0 52 → Q (some (.int (stType M x b).1)) n h') : Ok 90 [.ref 0, .int x, .int b] n h Q := by
  unfold stType at hq
  refine ok_of kMX10_type kCX10_type (Nat.le_of_ble_eq_true rfl) (fun z => ?_)
  change A z _ _ 0 0 _ 0 [some (.ref 0), some (.int x), some (.int b), none] [] _
  refine go_ok okF1 (C := cdX10_type) (by rfl) [] 40 (by exact Nat.le_of_ble_eq_true rfl) ?_
  simp (maxSteps := 2000000) only [go, stp, inS, ↓reduceIte, Bool.false_eq_true, Nat.reduceLT, Nat.reduceEqDiff, Nat.reduceAdd, ldI, ldL, ldA, st1, st2, okS, List.getElem?_cons_zero, List.getElem?_cons_succ, List.length_cons, List.length_nil, List.set_cons_zero, List.set_cons_succ, callP, callF, popN, ct, Value.category, cI, List.getD_cons_zero, List.getD_cons_succ, and_self, and_true, true_and, Nat.zero_le, Nat.reduceLeDiff, Nat.add_zero, Nat.zero_add, List.nil_append, List.cons_append, Option.toList_some, Option.toList_none, List.append_nil, hset_ss, true_or, or_true, eq_self, beq_self_eq_true, List.drop_succ_cons, List.drop_zero, swT, swL, hset_ap, not_true_eq_false, not_false_eq_true, true_implies, false_implies, implies_true, Int32.reduceLE, Int32.reduceLT, Int32.reduceAdd, Int32.reduceSub, Int32.reduceOfInt, Int32.reduceToNatClampNeg, i10, i01, Nat.add_left_cancel_iff, Nat.left_eq_add, Nat.add_eq_left, cdX10_type, F1, c.o]
  refine K_text c (fun t ht e => ?_) (fun e => ?_)
  · subst e
    rw [i_cl (show t < 2147483648 by omega)] at hq
    obtain ⟨S, hx, hz⟩ := c.tx ht
    refine go_ok okF1 (C := cdX10_type) (by rfl) [21] 40 (by exact Nat.le_of_ble_eq_true rfl) ?_
    simp (maxSteps := 2000000) only [go, stp, inS, ↓reduceIte, Bool.false_eq_true, Nat.reduceLT, Nat.reduceEqDiff, Nat.reduceAdd, ldI, ldL, ldA, st1, st2, okS, List.getElem?_cons_zero, List.getElem?_cons_succ, List.length_cons, List.length_nil, List.set_cons_zero, List.set_cons_succ, callP, callF, popN, ct, Value.category, cI, List.getD_cons_zero, List.getD_cons_succ, and_self, and_true, true_and, Nat.zero_le, Nat.reduceLeDiff, Nat.add_zero, Nat.zero_add, List.nil_append, List.cons_append, Option.toList_some, Option.toList_none, List.append_nil, hset_ss, true_or, or_true, eq_self, beq_self_eq_true, List.drop_succ_cons, List.drop_zero, swT, swL, hset_ap, not_true_eq_false, not_false_eq_true, true_implies, false_implies, implies_true, Int32.reduceLE, Int32.reduceLT, Int32.reduceAdd, Int32.reduceSub, Int32.reduceOfInt, Int32.reduceToNatClampNeg, i10, i01, Nat.add_left_cancel_iff, Nat.left_eq_add, Nat.add_eq_left, cdX10_type, F1, hx.1]
    have bad : ¬ (0 ≤ b ∧ b ≤ 255) → A z 90 n 0 0 h 21 [some (.ref 0), some (.int (nI t)), some (.int b), some (.ref (4 + 6 * t))] [] Q := fun hc => by
      refine go_ok okF1 (C := cdX10_type) (by rfl) [] 40 (by exact Nat.le_of_ble_eq_true rfl) ?_
      simp (maxSteps := 2000000) only [go, stp, inS, ↓reduceIte, Bool.false_eq_true, Nat.reduceLT, Nat.reduceEqDiff, Nat.reduceAdd, ldI, ldL, ldA, st1, st2, okS, List.getElem?_cons_zero, List.getElem?_cons_succ, List.length_cons, List.length_nil, List.set_cons_zero, List.set_cons_succ, callP, callF, popN, ct, Value.category, cI, List.getD_cons_zero, List.getD_cons_succ, and_self, and_true, true_and, Nat.zero_le, Nat.reduceLeDiff, Nat.add_zero, Nat.zero_add, List.nil_append, List.cons_append, Option.toList_some, Option.toList_none, List.append_nil, hset_ss, true_or, or_true, eq_self, beq_self_eq_true, List.drop_succ_cons, List.drop_zero, swT, swL, hset_ap, not_true_eq_false, not_false_eq_true, true_implies, false_implies, implies_true, Int32.reduceLE, Int32.reduceLT, Int32.reduceAdd, Int32.reduceSub, Int32.reduceOfInt, Int32.reduceToNatClampNeg, i10, i01, Nat.add_left_cancel_iff, Nat.left_eq_add, Nat.add_eq_left, cdX10_type, F1]
      rw [if_neg (fun q => hc q.2)] at hq
      exact hq h c sOff.rf
    refine ⟨fun c1 => bad (fun q => absurd q.1 (i_nle.mpr c1)), fun c1 => ⟨fun c2 => ?_, fun c2 => bad (fun q => c2 q.2)⟩⟩
    rw [if_pos ⟨t2 ht, i_nlt.mp c1, c2⟩] at hq
    refine X_append hx (m.pi t ht) (m.ln t ht) hz (fun e => ?_) (fun e h' S' hx' hz' hO => ?_)
    · refine go_ok okF1 (C := cdX10_type) (by rfl) [] 40 (by exact Nat.le_of_ble_eq_true rfl) ?_
      simp (maxSteps := 2000000) only [go, stp, inS, ↓reduceIte, Bool.false_eq_true, Nat.reduceLT, Nat.reduceEqDiff, Nat.reduceAdd, ldI, ldL, ldA, st1, st2, okS, List.getElem?_cons_zero, List.getElem?_cons_succ, List.length_cons, List.length_nil, List.set_cons_zero, List.set_cons_succ, callP, callF, popN, ct, Value.category, cI, List.getD_cons_zero, List.getD_cons_succ, and_self, and_true, true_and, Nat.zero_le, Nat.reduceLeDiff, Nat.add_zero, Nat.zero_add, List.nil_append, List.cons_append, Option.toList_some, Option.toList_none, List.append_nil, hset_ss, true_or, or_true, eq_self, beq_self_eq_true, List.drop_succ_cons, List.drop_zero, swT, swL, hset_ap, not_true_eq_false, not_false_eq_true, true_implies, false_implies, implies_true, Int32.reduceLE, Int32.reduceLT, Int32.reduceAdd, Int32.reduceSub, Int32.reduceOfInt, Int32.reduceToNatClampNeg, i10, i01, Nat.add_left_cancel_iff, Nat.left_eq_add, Nat.add_eq_left, cdX10_type, F1]
      rw [if_neg (by omega)] at hq
      exact hq h c sOff.rf
    · refine go_ok okF1 (C := cdX10_type) (by rfl) [] 40 (by exact Nat.le_of_ble_eq_true rfl) ?_
      simp (maxSteps := 2000000) only [go, stp, inS, ↓reduceIte, Bool.false_eq_true, Nat.reduceLT, Nat.reduceEqDiff, Nat.reduceAdd, ldI, ldL, ldA, st1, st2, okS, List.getElem?_cons_zero, List.getElem?_cons_succ, List.length_cons, List.length_nil, List.set_cons_zero, List.set_cons_succ, callP, callF, popN, ct, Value.category, cI, List.getD_cons_zero, List.getD_cons_succ, and_self, and_true, true_and, Nat.zero_le, Nat.reduceLeDiff, Nat.add_zero, Nat.zero_add, List.nil_append, List.cons_append, Option.toList_some, Option.toList_none, List.append_nil, hset_ss, true_or, or_true, eq_self, beq_self_eq_true, List.drop_succ_cons, List.drop_zero, swT, swL, hset_ap, not_true_eq_false, not_false_eq_true, true_implies, false_implies, implies_true, Int32.reduceLE, Int32.reduceLT, Int32.reduceAdd, Int32.reduceSub, Int32.reduceOfInt, Int32.reduceToNatClampNeg, i10, i01, Nat.add_left_cancel_iff, Nat.left_eq_add, Nat.add_eq_left, cdX10_type, F1, hx'.1]
      rw [if_pos e] at hq
      exact hq h' (CInv.uTx ht ⟨S', hx', hz'⟩ c hO) (hO.w (by omega) (by omega))
  · refine go_ok okF1 (C := cdX10_type) (by rfl) [] 40 (by exact Nat.le_of_ble_eq_true rfl) ?_
    simp (maxSteps := 2000000) only [go, stp, inS, ↓reduceIte, Bool.false_eq_true, Nat.reduceLT, Nat.reduceEqDiff, Nat.reduceAdd, ldI, ldL, ldA, st1, st2, okS, List.getElem?_cons_zero, List.getElem?_cons_succ, List.length_cons, List.length_nil, List.set_cons_zero, List.set_cons_succ, callP, callF, popN, ct, Value.category, cI, List.getD_cons_zero, List.getD_cons_succ, and_self, and_true, true_and, Nat.zero_le, Nat.reduceLeDiff, Nat.add_zero, Nat.zero_add, List.nil_append, List.cons_append, Option.toList_some, Option.toList_none, List.append_nil, hset_ss, true_or, or_true, eq_self, beq_self_eq_true, List.drop_succ_cons, List.drop_zero, swT, swL, hset_ap, not_true_eq_false, not_false_eq_true, true_implies, false_implies, implies_true, Int32.reduceLE, Int32.reduceLT, Int32.reduceAdd, Int32.reduceSub, Int32.reduceOfInt, Int32.reduceToNatClampNeg, i10, i01, Nat.add_left_cancel_iff, Nat.left_eq_add, Nat.add_eq_left, cdX10_type, F1]
    rw [if_neg (fun q => e q.1)] at hq
    exact hq h c sOff.rf
def stWipe (M : MS) (x : Int32) : Int32 × MS := if 0 ≤ x ∧ x < 2 then (nI (M.len x.toNatClampNeg), txM M x.toNatClampNeg (M.B x.toNatClampNeg) (pz (M.s x.toNatClampNeg).2.2.2.2.2.1 (M.s x.toNatClampNeg).2.2.2.2.2.2.1 (M.s x.toNatClampNeg).2.2.2.2.2.2.2) 0) else (-2, M)
set_option maxRecDepth 100000 in
set_option maxHeartbeats 400000 in
theorem K_wipe {x : Int32} (c : CInv h M) (hq : ∀ h', CInv h' (stWipe M x).2 → sOff h h' 0 52 → Q (some (.int (stWipe M x).1)) n h') : Ok 91 [.ref 0, .int x] n h Q := by
  unfold stWipe at hq
  refine ok_of kMX10_wipe kCX10_wipe (Nat.le_of_ble_eq_true rfl) (fun z => ?_)
  change A z _ _ 0 0 _ 0 [some (.ref 0), some (.int x), none, none] [] _
  refine go_ok okF1 (C := cdX10_wipe) (by rfl) [] 40 (by exact Nat.le_of_ble_eq_true rfl) ?_
  simp (maxSteps := 2000000) only [go, stp, inS, ↓reduceIte, Bool.false_eq_true, Nat.reduceLT, Nat.reduceEqDiff, Nat.reduceAdd, ldI, ldL, ldA, st1, st2, okS, List.getElem?_cons_zero, List.getElem?_cons_succ, List.length_cons, List.length_nil, List.set_cons_zero, List.set_cons_succ, callP, callF, popN, ct, Value.category, cI, List.getD_cons_zero, List.getD_cons_succ, and_self, and_true, true_and, Nat.zero_le, Nat.reduceLeDiff, Nat.add_zero, Nat.zero_add, List.nil_append, List.cons_append, Option.toList_some, Option.toList_none, List.append_nil, hset_ss, true_or, or_true, eq_self, beq_self_eq_true, List.drop_succ_cons, List.drop_zero, swT, swL, hset_ap, not_true_eq_false, not_false_eq_true, true_implies, false_implies, implies_true, Int32.reduceLE, Int32.reduceLT, Int32.reduceAdd, Int32.reduceSub, Int32.reduceOfInt, Int32.reduceToNatClampNeg, i10, i01, Nat.add_left_cancel_iff, Nat.left_eq_add, Nat.add_eq_left, cdX10_wipe, F1, c.o]
  refine K_text c (fun t ht e => ?_) (fun e => ?_)
  · subst e
    rw [if_pos (t2 ht), i_cl (show t < 2147483648 by omega)] at hq
    obtain ⟨S, hx, hz⟩ := c.tx ht
    refine go_ok okF1 (C := cdX10_wipe) (by rfl) [] 40 (by exact Nat.le_of_ble_eq_true rfl) ?_
    simp (maxSteps := 2000000) only [go, stp, inS, ↓reduceIte, Bool.false_eq_true, Nat.reduceLT, Nat.reduceEqDiff, Nat.reduceAdd, ldI, ldL, ldA, st1, st2, okS, List.getElem?_cons_zero, List.getElem?_cons_succ, List.length_cons, List.length_nil, List.set_cons_zero, List.set_cons_succ, callP, callF, popN, ct, Value.category, cI, List.getD_cons_zero, List.getD_cons_succ, and_self, and_true, true_and, Nat.zero_le, Nat.reduceLeDiff, Nat.add_zero, Nat.zero_add, List.nil_append, List.cons_append, Option.toList_some, Option.toList_none, List.append_nil, hset_ss, true_or, or_true, eq_self, beq_self_eq_true, List.drop_succ_cons, List.drop_zero, swT, swL, hset_ap, not_true_eq_false, not_false_eq_true, true_implies, false_implies, implies_true, Int32.reduceLE, Int32.reduceLT, Int32.reduceAdd, Int32.reduceSub, Int32.reduceOfInt, Int32.reduceToNatClampNeg, i10, i01, Nat.add_left_cancel_iff, Nat.left_eq_add, Nat.add_eq_left, cdX10_wipe, F1, hx.1]
    refine X_clear hx (fun h' hx' hO => ?_)
    refine go_ok okF1 (C := cdX10_wipe) (by rfl) [] 40 (by exact Nat.le_of_ble_eq_true rfl) ?_
    simp (maxSteps := 2000000) only [go, stp, inS, ↓reduceIte, Bool.false_eq_true, Nat.reduceLT, Nat.reduceEqDiff, Nat.reduceAdd, ldI, ldL, ldA, st1, st2, okS, List.getElem?_cons_zero, List.getElem?_cons_succ, List.length_cons, List.length_nil, List.set_cons_zero, List.set_cons_succ, callP, callF, popN, ct, Value.category, cI, List.getD_cons_zero, List.getD_cons_succ, and_self, and_true, true_and, Nat.zero_le, Nat.reduceLeDiff, Nat.add_zero, Nat.zero_add, List.nil_append, List.cons_append, Option.toList_some, Option.toList_none, List.append_nil, hset_ss, true_or, or_true, eq_self, beq_self_eq_true, List.drop_succ_cons, List.drop_zero, swT, swL, hset_ap, not_true_eq_false, not_false_eq_true, true_implies, false_implies, implies_true, Int32.reduceLE, Int32.reduceLT, Int32.reduceAdd, Int32.reduceSub, Int32.reduceOfInt, Int32.reduceToNatClampNeg, i10, i01, Nat.add_left_cancel_iff, Nat.left_eq_add, Nat.add_eq_left, cdX10_wipe, F1]
    exact hq h' (CInv.uTx ht ⟨S, hx', fun hw => absurd (show (1 : Nat) = 0 from hw.2.1) (by decide)⟩ c hO) (hO.w (by omega) (by omega))
  · refine go_ok okF1 (C := cdX10_wipe) (by rfl) [] 40 (by exact Nat.le_of_ble_eq_true rfl) ?_
    simp (maxSteps := 2000000) only [go, stp, inS, ↓reduceIte, Bool.false_eq_true, Nat.reduceLT, Nat.reduceEqDiff, Nat.reduceAdd, ldI, ldL, ldA, st1, st2, okS, List.getElem?_cons_zero, List.getElem?_cons_succ, List.length_cons, List.length_nil, List.set_cons_zero, List.set_cons_succ, callP, callF, popN, ct, Value.category, cI, List.getD_cons_zero, List.getD_cons_succ, and_self, and_true, true_and, Nat.zero_le, Nat.reduceLeDiff, Nat.add_zero, Nat.zero_add, List.nil_append, List.cons_append, Option.toList_some, Option.toList_none, List.append_nil, hset_ss, true_or, or_true, eq_self, beq_self_eq_true, List.drop_succ_cons, List.drop_zero, swT, swL, hset_ap, not_true_eq_false, not_false_eq_true, true_implies, false_implies, implies_true, Int32.reduceLE, Int32.reduceLT, Int32.reduceAdd, Int32.reduceSub, Int32.reduceOfInt, Int32.reduceToNatClampNeg, i10, i01, Nat.add_left_cancel_iff, Nat.left_eq_add, Nat.add_eq_left, cdX10_wipe, F1]
    rw [if_neg e] at hq
    exact hq h c sOff.rf
def flt (s : pT) (len : Nat) : Int32 := if ¬ s.2.2.2.2.1 = -1 then s.2.2.2.2.1 else if s.2.1 = 0 ∧ s.2.2.1 = 0 then -1 else nI len
def stFault (M : MS) (x : Int32) : Int32 := if 0 ≤ x ∧ x < 2 then flt (M.s x.toNatClampNeg) (M.len x.toNatClampNeg) else -2
theorem s0I {s : pT} {len : Nat} (hI : pI s len) (hl : len ≤ 40) : (nI s.2.1 = 0 ↔ s.2.1 = 0) ∧ (nI s.2.2.1 = 0 ↔ s.2.2.1 = 0) := by
  obtain ⟨ac, ot, om, mi, sk, G, L, R⟩ := s
  obtain ⟨a1, a2, a3, -⟩ := hI
  exact ⟨i_eq (b := 0) (by dsimp only; omega) (by omega), i_eq (b := 0) (by dsimp only; omega) (by omega)⟩
theorem X_fault' {x : Nat} {B : Nat → Int32} {s : pT} {len : Nat} (hX : TxI h x B s len) (hI : pI s len) (hl : len ≤ 40) (hq : Q (some (.int (flt s len))) n h) : Ok 72 [.ref x] n h Q := by
  obtain ⟨S, hx, -⟩ := hX
  refine X_faultPlace hx ?_
  obtain ⟨e1, e2⟩ := s0I hI hl
  simp only [e1, e2]
  exact hq
theorem X_whole' {x : Nat} {B : Nat → Int32} {s : pT} {len : Nat} (hX : TxI h x B s len) (hI : pI s len) (hl : len ≤ 40) (hq0 : ¬ pwB s = true → Q (some (.int 0)) n h) (hq1 : pwB s = true → Q (some (.int 1)) n h) : Ok 71 [.ref x] n h Q := by
  obtain ⟨S, hx, -⟩ := hX
  refine X_isWhole hx ?_
  obtain ⟨e1, e2⟩ := s0I hI hl
  simp only [e1, e2]
  by_cases hw : pw s
  · rw [if_pos (show _ ∧ _ ∧ _ from hw)]; exact hq1 (pwB_iff.mpr hw)
  · rw [if_neg (show ¬ (_ ∧ _ ∧ _) from hw)]; exact hq0 (fun q => hw (pwB_iff.mp q))
set_option maxRecDepth 100000 in
set_option maxHeartbeats 400000 in
theorem K_fault {x : Int32} (c : CInv h M) (m : MOk M) (hq : Q (some (.int (stFault M x))) n h) : Ok 92 [.ref 0, .int x] n h Q := by
  unfold stFault at hq
  refine ok_of kMX10_fault kCX10_fault (Nat.le_of_ble_eq_true rfl) (fun z => ?_)
  change A z _ _ 0 0 _ 0 [some (.ref 0), some (.int x), none] [] _
  refine go_ok okF1 (C := cdX10_fault) (by rfl) [] 40 (by exact Nat.le_of_ble_eq_true rfl) ?_
  simp (maxSteps := 2000000) only [go, stp, inS, ↓reduceIte, Bool.false_eq_true, Nat.reduceLT, Nat.reduceEqDiff, Nat.reduceAdd, ldI, ldL, ldA, st1, st2, okS, List.getElem?_cons_zero, List.getElem?_cons_succ, List.length_cons, List.length_nil, List.set_cons_zero, List.set_cons_succ, callP, callF, popN, ct, Value.category, cI, List.getD_cons_zero, List.getD_cons_succ, and_self, and_true, true_and, Nat.zero_le, Nat.reduceLeDiff, Nat.add_zero, Nat.zero_add, List.nil_append, List.cons_append, Option.toList_some, Option.toList_none, List.append_nil, hset_ss, true_or, or_true, eq_self, beq_self_eq_true, List.drop_succ_cons, List.drop_zero, swT, swL, hset_ap, not_true_eq_false, not_false_eq_true, true_implies, false_implies, implies_true, Int32.reduceLE, Int32.reduceLT, Int32.reduceAdd, Int32.reduceSub, Int32.reduceOfInt, Int32.reduceToNatClampNeg, i10, i01, Nat.add_left_cancel_iff, Nat.left_eq_add, Nat.add_eq_left, cdX10_fault, F1, c.o]
  refine K_text c (fun t ht e => ?_) (fun e => ?_)
  · subst e
    rw [if_pos (t2 ht), i_cl (show t < 2147483648 by omega)] at hq
    obtain ⟨S, hx, hz⟩ := c.tx ht
    refine go_ok okF1 (C := cdX10_fault) (by rfl) [] 40 (by exact Nat.le_of_ble_eq_true rfl) ?_
    simp (maxSteps := 2000000) only [go, stp, inS, ↓reduceIte, Bool.false_eq_true, Nat.reduceLT, Nat.reduceEqDiff, Nat.reduceAdd, ldI, ldL, ldA, st1, st2, okS, List.getElem?_cons_zero, List.getElem?_cons_succ, List.length_cons, List.length_nil, List.set_cons_zero, List.set_cons_succ, callP, callF, popN, ct, Value.category, cI, List.getD_cons_zero, List.getD_cons_succ, and_self, and_true, true_and, Nat.zero_le, Nat.reduceLeDiff, Nat.add_zero, Nat.zero_add, List.nil_append, List.cons_append, Option.toList_some, Option.toList_none, List.append_nil, hset_ss, true_or, or_true, eq_self, beq_self_eq_true, List.drop_succ_cons, List.drop_zero, swT, swL, hset_ap, not_true_eq_false, not_false_eq_true, true_implies, false_implies, implies_true, Int32.reduceLE, Int32.reduceLT, Int32.reduceAdd, Int32.reduceSub, Int32.reduceOfInt, Int32.reduceToNatClampNeg, i10, i01, Nat.add_left_cancel_iff, Nat.left_eq_add, Nat.add_eq_left, cdX10_fault, F1, hx.1]
    refine X_fault' (c.tx ht) (m.pi t ht) (m.ln t ht) ?_
    refine go_ok okF1 (C := cdX10_fault) (by rfl) [] 40 (by exact Nat.le_of_ble_eq_true rfl) ?_
    simp (maxSteps := 2000000) only [go, stp, inS, ↓reduceIte, Bool.false_eq_true, Nat.reduceLT, Nat.reduceEqDiff, Nat.reduceAdd, ldI, ldL, ldA, st1, st2, okS, List.getElem?_cons_zero, List.getElem?_cons_succ, List.length_cons, List.length_nil, List.set_cons_zero, List.set_cons_succ, callP, callF, popN, ct, Value.category, cI, List.getD_cons_zero, List.getD_cons_succ, and_self, and_true, true_and, Nat.zero_le, Nat.reduceLeDiff, Nat.add_zero, Nat.zero_add, List.nil_append, List.cons_append, Option.toList_some, Option.toList_none, List.append_nil, hset_ss, true_or, or_true, eq_self, beq_self_eq_true, List.drop_succ_cons, List.drop_zero, swT, swL, hset_ap, not_true_eq_false, not_false_eq_true, true_implies, false_implies, implies_true, Int32.reduceLE, Int32.reduceLT, Int32.reduceAdd, Int32.reduceSub, Int32.reduceOfInt, Int32.reduceToNatClampNeg, i10, i01, Nat.add_left_cancel_iff, Nat.left_eq_add, Nat.add_eq_left, cdX10_fault, F1]
    exact hq
  · refine go_ok okF1 (C := cdX10_fault) (by rfl) [] 40 (by exact Nat.le_of_ble_eq_true rfl) ?_
    simp (maxSteps := 2000000) only [go, stp, inS, ↓reduceIte, Bool.false_eq_true, Nat.reduceLT, Nat.reduceEqDiff, Nat.reduceAdd, ldI, ldL, ldA, st1, st2, okS, List.getElem?_cons_zero, List.getElem?_cons_succ, List.length_cons, List.length_nil, List.set_cons_zero, List.set_cons_succ, callP, callF, popN, ct, Value.category, cI, List.getD_cons_zero, List.getD_cons_succ, and_self, and_true, true_and, Nat.zero_le, Nat.reduceLeDiff, Nat.add_zero, Nat.zero_add, List.nil_append, List.cons_append, Option.toList_some, Option.toList_none, List.append_nil, hset_ss, true_or, or_true, eq_self, beq_self_eq_true, List.drop_succ_cons, List.drop_zero, swT, swL, hset_ap, not_true_eq_false, not_false_eq_true, true_implies, false_implies, implies_true, Int32.reduceLE, Int32.reduceLT, Int32.reduceAdd, Int32.reduceSub, Int32.reduceOfInt, Int32.reduceToNatClampNeg, i10, i01, Nat.add_left_cancel_iff, Nat.left_eq_add, Nat.add_eq_left, cdX10_fault, F1]
    rw [if_neg e] at hq
    exact hq
def stByte (M : MS) (x i : Int32) : Int32 := if (0 ≤ x ∧ x < 2) ∧ 0 ≤ i then (if i < nI (M.len x.toNatClampNeg) then M.B x.toNatClampNeg i.toNatClampNeg else -1) else -2
set_option maxRecDepth 100000 in
set_option maxHeartbeats 400000 in
theorem K_byteOf {x i : Int32} (c : CInv h M) (m : MOk M) (hq : Q (some (.int (stByte M x i))) n h) : Ok 93 [.ref 0, .int x, .int i] n h Q := by
  unfold stByte at hq
  refine ok_of kMX10_byteOf kCX10_byteOf (Nat.le_of_ble_eq_true rfl) (fun z => ?_)
  change A z _ _ 0 0 _ 0 [some (.ref 0), some (.int x), some (.int i), none] [] _
  refine go_ok okF1 (C := cdX10_byteOf) (by rfl) [] 40 (by exact Nat.le_of_ble_eq_true rfl) ?_
  simp (maxSteps := 2000000) only [go, stp, inS, ↓reduceIte, Bool.false_eq_true, Nat.reduceLT, Nat.reduceEqDiff, Nat.reduceAdd, ldI, ldL, ldA, st1, st2, okS, List.getElem?_cons_zero, List.getElem?_cons_succ, List.length_cons, List.length_nil, List.set_cons_zero, List.set_cons_succ, callP, callF, popN, ct, Value.category, cI, List.getD_cons_zero, List.getD_cons_succ, and_self, and_true, true_and, Nat.zero_le, Nat.reduceLeDiff, Nat.add_zero, Nat.zero_add, List.nil_append, List.cons_append, Option.toList_some, Option.toList_none, List.append_nil, hset_ss, true_or, or_true, eq_self, beq_self_eq_true, List.drop_succ_cons, List.drop_zero, swT, swL, hset_ap, not_true_eq_false, not_false_eq_true, true_implies, false_implies, implies_true, Int32.reduceLE, Int32.reduceLT, Int32.reduceAdd, Int32.reduceSub, Int32.reduceOfInt, Int32.reduceToNatClampNeg, i10, i01, Nat.add_left_cancel_iff, Nat.left_eq_add, Nat.add_eq_left, cdX10_byteOf, F1, c.o]
  refine K_text c (fun t ht e => ?_) (fun e => ?_)
  · subst e
    rw [i_cl (show t < 2147483648 by omega)] at hq
    obtain ⟨S, hx, hz⟩ := c.tx ht
    refine go_ok okF1 (C := cdX10_byteOf) (by rfl) [] 40 (by exact Nat.le_of_ble_eq_true rfl) ?_
    simp (maxSteps := 2000000) only [go, stp, inS, ↓reduceIte, Bool.false_eq_true, Nat.reduceLT, Nat.reduceEqDiff, Nat.reduceAdd, ldI, ldL, ldA, st1, st2, okS, List.getElem?_cons_zero, List.getElem?_cons_succ, List.length_cons, List.length_nil, List.set_cons_zero, List.set_cons_succ, callP, callF, popN, ct, Value.category, cI, List.getD_cons_zero, List.getD_cons_succ, and_self, and_true, true_and, Nat.zero_le, Nat.reduceLeDiff, Nat.add_zero, Nat.zero_add, List.nil_append, List.cons_append, Option.toList_some, Option.toList_none, List.append_nil, hset_ss, true_or, or_true, eq_self, beq_self_eq_true, List.drop_succ_cons, List.drop_zero, swT, swL, hset_ap, not_true_eq_false, not_false_eq_true, true_implies, false_implies, implies_true, Int32.reduceLE, Int32.reduceLT, Int32.reduceAdd, Int32.reduceSub, Int32.reduceOfInt, Int32.reduceToNatClampNeg, i10, i01, Nat.add_left_cancel_iff, Nat.left_eq_add, Nat.add_eq_left, cdX10_byteOf, F1, hx.1]
    refine ⟨fun c1 => ?_, fun c1 => ?_⟩
    · refine X_byteAt hx ?_
      refine go_ok okF1 (C := cdX10_byteOf) (by rfl) [] 40 (by exact Nat.le_of_ble_eq_true rfl) ?_
      simp (maxSteps := 2000000) only [go, stp, inS, ↓reduceIte, Bool.false_eq_true, Nat.reduceLT, Nat.reduceEqDiff, Nat.reduceAdd, ldI, ldL, ldA, st1, st2, okS, List.getElem?_cons_zero, List.getElem?_cons_succ, List.length_cons, List.length_nil, List.set_cons_zero, List.set_cons_succ, callP, callF, popN, ct, Value.category, cI, List.getD_cons_zero, List.getD_cons_succ, and_self, and_true, true_and, Nat.zero_le, Nat.reduceLeDiff, Nat.add_zero, Nat.zero_add, List.nil_append, List.cons_append, Option.toList_some, Option.toList_none, List.append_nil, hset_ss, true_or, or_true, eq_self, beq_self_eq_true, List.drop_succ_cons, List.drop_zero, swT, swL, hset_ap, not_true_eq_false, not_false_eq_true, true_implies, false_implies, implies_true, Int32.reduceLE, Int32.reduceLT, Int32.reduceAdd, Int32.reduceSub, Int32.reduceOfInt, Int32.reduceToNatClampNeg, i10, i01, Nat.add_left_cancel_iff, Nat.left_eq_add, Nat.add_eq_left, cdX10_byteOf, F1]
      rw [if_pos ⟨t2 ht, c1⟩] at hq
      have hl := m.ln t ht
      by_cases c2 : i < nI (M.len t)
      · have : i < 40 := by
          obtain ⟨j, hj, rfl⟩ := i_of (by omega) (i_nlt.mpr c1) c2
          exact (i_lt (b := 40) (by omega) (by omega)).mpr (by omega)
        rw [if_pos ⟨c1, c2, this⟩]; rw [if_pos c2] at hq; exact hq
      · rw [if_neg (fun q => c2 q.2.1)]; rw [if_neg c2] at hq; exact hq
    · rw [if_neg (fun q => c1 q.2)] at hq; exact hq
  · refine go_ok okF1 (C := cdX10_byteOf) (by rfl) [] 40 (by exact Nat.le_of_ble_eq_true rfl) ?_
    simp (maxSteps := 2000000) only [go, stp, inS, ↓reduceIte, Bool.false_eq_true, Nat.reduceLT, Nat.reduceEqDiff, Nat.reduceAdd, ldI, ldL, ldA, st1, st2, okS, List.getElem?_cons_zero, List.getElem?_cons_succ, List.length_cons, List.length_nil, List.set_cons_zero, List.set_cons_succ, callP, callF, popN, ct, Value.category, cI, List.getD_cons_zero, List.getD_cons_succ, and_self, and_true, true_and, Nat.zero_le, Nat.reduceLeDiff, Nat.add_zero, Nat.zero_add, List.nil_append, List.cons_append, Option.toList_some, Option.toList_none, List.append_nil, hset_ss, true_or, or_true, eq_self, beq_self_eq_true, List.drop_succ_cons, List.drop_zero, swT, swL, hset_ap, not_true_eq_false, not_false_eq_true, true_implies, false_implies, implies_true, Int32.reduceLE, Int32.reduceLT, Int32.reduceAdd, Int32.reduceSub, Int32.reduceOfInt, Int32.reduceToNatClampNeg, i10, i01, Nat.add_left_cancel_iff, Nat.left_eq_add, Nat.add_eq_left, cdX10_byteOf, F1]
    rw [if_neg (fun q => e q.1)] at hq
    exact hq
def stActs (M : MS) (x : Int32) : Int32 := if 0 ≤ x ∧ x < 2 then (if pwB (M.s x.toNatClampNeg) = true then nI (M.s x.toNatClampNeg).1 else -3) else -2
set_option maxRecDepth 100000 in
set_option maxHeartbeats 400000 in
theorem K_acts {x : Int32} (c : CInv h M) (m : MOk M) (hq : Q (some (.int (stActs M x))) n h) : Ok 94 [.ref 0, .int x] n h Q := by
  unfold stActs at hq
  refine ok_of kMX10_acts kCX10_acts (Nat.le_of_ble_eq_true rfl) (fun z => ?_)
  change A z _ _ 0 0 _ 0 [some (.ref 0), some (.int x), none] [] _
  refine go_ok okF1 (C := cdX10_acts) (by rfl) [] 40 (by exact Nat.le_of_ble_eq_true rfl) ?_
  simp (maxSteps := 2000000) only [go, stp, inS, ↓reduceIte, Bool.false_eq_true, Nat.reduceLT, Nat.reduceEqDiff, Nat.reduceAdd, ldI, ldL, ldA, st1, st2, okS, List.getElem?_cons_zero, List.getElem?_cons_succ, List.length_cons, List.length_nil, List.set_cons_zero, List.set_cons_succ, callP, callF, popN, ct, Value.category, cI, List.getD_cons_zero, List.getD_cons_succ, and_self, and_true, true_and, Nat.zero_le, Nat.reduceLeDiff, Nat.add_zero, Nat.zero_add, List.nil_append, List.cons_append, Option.toList_some, Option.toList_none, List.append_nil, hset_ss, true_or, or_true, eq_self, beq_self_eq_true, List.drop_succ_cons, List.drop_zero, swT, swL, hset_ap, not_true_eq_false, not_false_eq_true, true_implies, false_implies, implies_true, Int32.reduceLE, Int32.reduceLT, Int32.reduceAdd, Int32.reduceSub, Int32.reduceOfInt, Int32.reduceToNatClampNeg, i10, i01, Nat.add_left_cancel_iff, Nat.left_eq_add, Nat.add_eq_left, cdX10_acts, F1, c.o]
  refine K_text c (fun t ht e => ?_) (fun e => ?_)
  · subst e
    rw [if_pos (t2 ht), i_cl (show t < 2147483648 by omega)] at hq
    obtain ⟨S, hx, hz⟩ := c.tx ht
    refine go_ok okF1 (C := cdX10_acts) (by rfl) [] 40 (by exact Nat.le_of_ble_eq_true rfl) ?_
    simp (maxSteps := 2000000) only [go, stp, inS, ↓reduceIte, Bool.false_eq_true, Nat.reduceLT, Nat.reduceEqDiff, Nat.reduceAdd, ldI, ldL, ldA, st1, st2, okS, List.getElem?_cons_zero, List.getElem?_cons_succ, List.length_cons, List.length_nil, List.set_cons_zero, List.set_cons_succ, callP, callF, popN, ct, Value.category, cI, List.getD_cons_zero, List.getD_cons_succ, and_self, and_true, true_and, Nat.zero_le, Nat.reduceLeDiff, Nat.add_zero, Nat.zero_add, List.nil_append, List.cons_append, Option.toList_some, Option.toList_none, List.append_nil, hset_ss, true_or, or_true, eq_self, beq_self_eq_true, List.drop_succ_cons, List.drop_zero, swT, swL, hset_ap, not_true_eq_false, not_false_eq_true, true_implies, false_implies, implies_true, Int32.reduceLE, Int32.reduceLT, Int32.reduceAdd, Int32.reduceSub, Int32.reduceOfInt, Int32.reduceToNatClampNeg, i10, i01, Nat.add_left_cancel_iff, Nat.left_eq_add, Nat.add_eq_left, cdX10_acts, F1, hx.1]
    refine X_whole' (c.tx ht) (m.pi t ht) (m.ln t ht) (fun hw => ?_) (fun hw => ?_)
    · refine go_ok okF1 (C := cdX10_acts) (by rfl) [] 40 (by exact Nat.le_of_ble_eq_true rfl) ?_
      simp (maxSteps := 2000000) only [go, stp, inS, ↓reduceIte, Bool.false_eq_true, Nat.reduceLT, Nat.reduceEqDiff, Nat.reduceAdd, ldI, ldL, ldA, st1, st2, okS, List.getElem?_cons_zero, List.getElem?_cons_succ, List.length_cons, List.length_nil, List.set_cons_zero, List.set_cons_succ, callP, callF, popN, ct, Value.category, cI, List.getD_cons_zero, List.getD_cons_succ, and_self, and_true, true_and, Nat.zero_le, Nat.reduceLeDiff, Nat.add_zero, Nat.zero_add, List.nil_append, List.cons_append, Option.toList_some, Option.toList_none, List.append_nil, hset_ss, true_or, or_true, eq_self, beq_self_eq_true, List.drop_succ_cons, List.drop_zero, swT, swL, hset_ap, not_true_eq_false, not_false_eq_true, true_implies, false_implies, implies_true, Int32.reduceLE, Int32.reduceLT, Int32.reduceAdd, Int32.reduceSub, Int32.reduceOfInt, Int32.reduceToNatClampNeg, i10, i01, Nat.add_left_cancel_iff, Nat.left_eq_add, Nat.add_eq_left, cdX10_acts, F1]
      rw [if_neg hw] at hq; exact hq
    · refine go_ok okF1 (C := cdX10_acts) (by rfl) [] 40 (by exact Nat.le_of_ble_eq_true rfl) ?_
      simp (maxSteps := 2000000) only [go, stp, inS, ↓reduceIte, Bool.false_eq_true, Nat.reduceLT, Nat.reduceEqDiff, Nat.reduceAdd, ldI, ldL, ldA, st1, st2, okS, List.getElem?_cons_zero, List.getElem?_cons_succ, List.length_cons, List.length_nil, List.set_cons_zero, List.set_cons_succ, callP, callF, popN, ct, Value.category, cI, List.getD_cons_zero, List.getD_cons_succ, and_self, and_true, true_and, Nat.zero_le, Nat.reduceLeDiff, Nat.add_zero, Nat.zero_add, List.nil_append, List.cons_append, Option.toList_some, Option.toList_none, List.append_nil, hset_ss, true_or, or_true, eq_self, beq_self_eq_true, List.drop_succ_cons, List.drop_zero, swT, swL, hset_ap, not_true_eq_false, not_false_eq_true, true_implies, false_implies, implies_true, Int32.reduceLE, Int32.reduceLT, Int32.reduceAdd, Int32.reduceSub, Int32.reduceOfInt, Int32.reduceToNatClampNeg, i10, i01, Nat.add_left_cancel_iff, Nat.left_eq_add, Nat.add_eq_left, cdX10_acts, F1, hx.1]
      rw [if_pos hw] at hq; exact hq
  · refine go_ok okF1 (C := cdX10_acts) (by rfl) [] 40 (by exact Nat.le_of_ble_eq_true rfl) ?_
    simp (maxSteps := 2000000) only [go, stp, inS, ↓reduceIte, Bool.false_eq_true, Nat.reduceLT, Nat.reduceEqDiff, Nat.reduceAdd, ldI, ldL, ldA, st1, st2, okS, List.getElem?_cons_zero, List.getElem?_cons_succ, List.length_cons, List.length_nil, List.set_cons_zero, List.set_cons_succ, callP, callF, popN, ct, Value.category, cI, List.getD_cons_zero, List.getD_cons_succ, and_self, and_true, true_and, Nat.zero_le, Nat.reduceLeDiff, Nat.add_zero, Nat.zero_add, List.nil_append, List.cons_append, Option.toList_some, Option.toList_none, List.append_nil, hset_ss, true_or, or_true, eq_self, beq_self_eq_true, List.drop_succ_cons, List.drop_zero, swT, swL, hset_ap, not_true_eq_false, not_false_eq_true, true_implies, false_implies, implies_true, Int32.reduceLE, Int32.reduceLT, Int32.reduceAdd, Int32.reduceSub, Int32.reduceOfInt, Int32.reduceToNatClampNeg, i10, i01, Nat.add_left_cancel_iff, Nat.left_eq_add, Nat.add_eq_left, cdX10_acts, F1]
    rw [if_neg e] at hq
    exact hq
def ruM (M : MS) (ru fa : Int32) : MS := mkM M.f M.nr M.B M.s M.len M.P ru fa M.fd M.I M.fm M.sz
def stSet (M : MS) (x b : Int32) : Int32 × MS := if (0 ≤ x ∧ x < 2) ∧ 0 ≤ b ∧ b ≤ 255 then (if x = 0 then (M.ru, ruM M b M.fa) else (M.fa, ruM M M.ru b)) else (-2, M)
set_option maxRecDepth 100000 in
set_option maxHeartbeats 400000 in
theorem K_set {x b : Int32} (c : CInv h M) (hq : ∀ h', CInv h' (stSet M x b).2 → sOff h h' 0 52 → Q (some (.int (stSet M x b).1)) n h') : Ok 97 [.ref 0, .int x, .int b] n h Q := by
  unfold stSet at hq
  refine ok_of kMX10_set kCX10_set (Nat.le_of_ble_eq_true rfl) (fun z => ?_)
  change A z _ _ 0 0 _ 0 [some (.ref 0), some (.int x), some (.int b), none] [] _
  have bad : ¬ ((0 ≤ x ∧ x < 2) ∧ 0 ≤ b ∧ b ≤ 255) → A z 97 n 0 0 h 20 [some (.ref 0), some (.int x), some (.int b), none] [] Q := fun hc => by
    refine go_ok okF1 (C := cdX10_set) (by rfl) [] 40 (by exact Nat.le_of_ble_eq_true rfl) ?_
    simp (maxSteps := 2000000) only [go, stp, inS, ↓reduceIte, Bool.false_eq_true, Nat.reduceLT, Nat.reduceEqDiff, Nat.reduceAdd, ldI, ldL, ldA, st1, st2, okS, List.getElem?_cons_zero, List.getElem?_cons_succ, List.length_cons, List.length_nil, List.set_cons_zero, List.set_cons_succ, callP, callF, popN, ct, Value.category, cI, List.getD_cons_zero, List.getD_cons_succ, and_self, and_true, true_and, Nat.zero_le, Nat.reduceLeDiff, Nat.add_zero, Nat.zero_add, List.nil_append, List.cons_append, Option.toList_some, Option.toList_none, List.append_nil, hset_ss, true_or, or_true, eq_self, beq_self_eq_true, List.drop_succ_cons, List.drop_zero, swT, swL, hset_ap, not_true_eq_false, not_false_eq_true, true_implies, false_implies, implies_true, Int32.reduceLE, Int32.reduceLT, Int32.reduceAdd, Int32.reduceSub, Int32.reduceOfInt, Int32.reduceToNatClampNeg, i10, i01, Nat.add_left_cancel_iff, Nat.left_eq_add, Nat.add_eq_left, cdX10_set, F1]
    rw [if_neg hc] at hq
    exact hq h c sOff.rf
  have x2 : x < 2 ↔ ¬ 1 < x := by
    rw [Int32.lt_iff_toInt_lt, Int32.lt_iff_toInt_lt, show (2 : Int32).toInt = 2 by decide, show (1 : Int32).toInt = 1 by decide]; omega
  by_cases x0 : x = 0
  · subst x0
    refine go_ok okF1 (C := cdX10_set) (by rfl) [20] 40 (by exact Nat.le_of_ble_eq_true rfl) ?_
    simp (maxSteps := 2000000) only [go, stp, inS, ↓reduceIte, Bool.false_eq_true, Nat.reduceLT, Nat.reduceEqDiff, Nat.reduceAdd, ldI, ldL, ldA, st1, st2, okS, List.getElem?_cons_zero, List.getElem?_cons_succ, List.length_cons, List.length_nil, List.set_cons_zero, List.set_cons_succ, callP, callF, popN, ct, Value.category, cI, List.getD_cons_zero, List.getD_cons_succ, and_self, and_true, true_and, Nat.zero_le, Nat.reduceLeDiff, Nat.add_zero, Nat.zero_add, List.nil_append, List.cons_append, Option.toList_some, Option.toList_none, List.append_nil, hset_ss, true_or, or_true, eq_self, beq_self_eq_true, List.drop_succ_cons, List.drop_zero, swT, swL, hset_ap, not_true_eq_false, not_false_eq_true, true_implies, false_implies, implies_true, Int32.reduceLE, Int32.reduceLT, Int32.reduceAdd, Int32.reduceSub, Int32.reduceOfInt, Int32.reduceToNatClampNeg, i10, i01, Nat.add_left_cancel_iff, Nat.left_eq_add, Nat.add_eq_left, cdX10_set, F1, c.o]
    refine ⟨fun c3 => bad (fun q => absurd q.2.1 (i_nle.mpr c3)), fun c3 => ⟨fun c4 => ?_, fun c4 => bad (fun q => c4 q.2.2)⟩⟩
    rw [if_pos ⟨by decide, i_nlt.mp c3, c4⟩, if_pos rfl] at hq
    have hO : sOff h (hset h 0 (.inl (10, [.ref 1, .ref 4, .ref 10, .ref 16, .ref 22, .ref 25, .ref 28, .ref 29, .ref 30, .ref 32, .ref 34, .ref 43, .int b, .int M.fa, .int M.fd]))) 0 1 := sOff.rf.set (by omega) (by omega)
    exact hq _ (CInv.uO (hset_s _ _ _) c hO) (hO.w (by omega) (by omega))
  · refine go_ok okF1 (C := cdX10_set) (by rfl) [20] 40 (by exact Nat.le_of_ble_eq_true rfl) ?_
    simp (maxSteps := 2000000) only [go, stp, inS, ↓reduceIte, Bool.false_eq_true, Nat.reduceLT, Nat.reduceEqDiff, Nat.reduceAdd, ldI, ldL, ldA, st1, st2, okS, List.getElem?_cons_zero, List.getElem?_cons_succ, List.length_cons, List.length_nil, List.set_cons_zero, List.set_cons_succ, callP, callF, popN, ct, Value.category, cI, List.getD_cons_zero, List.getD_cons_succ, and_self, and_true, true_and, Nat.zero_le, Nat.reduceLeDiff, Nat.add_zero, Nat.zero_add, List.nil_append, List.cons_append, Option.toList_some, Option.toList_none, List.append_nil, hset_ss, true_or, or_true, eq_self, beq_self_eq_true, List.drop_succ_cons, List.drop_zero, swT, swL, hset_ap, not_true_eq_false, not_false_eq_true, true_implies, false_implies, implies_true, Int32.reduceLE, Int32.reduceLT, Int32.reduceAdd, Int32.reduceSub, Int32.reduceOfInt, Int32.reduceToNatClampNeg, i10, i01, Nat.add_left_cancel_iff, Nat.left_eq_add, Nat.add_eq_left, cdX10_set, F1, c.o, x0]
    refine ⟨fun c1 => bad (fun q => absurd q.1.1 (i_nle.mpr c1)), fun c1 => ⟨fun c2 => bad (fun q => absurd c2 (x2.mp q.1.2)), fun c2 => ⟨fun c3 => bad (fun q => absurd q.2.1 (i_nle.mpr c3)), fun c3 => ⟨fun c4 => ?_, fun c4 => bad (fun q => c4 q.2.2)⟩⟩⟩⟩
    rw [if_pos ⟨⟨i_nlt.mp c1, x2.mpr c2⟩, i_nlt.mp c3, c4⟩, if_neg x0] at hq
    have hO : sOff h (hset h 0 (.inl (10, [.ref 1, .ref 4, .ref 10, .ref 16, .ref 22, .ref 25, .ref 28, .ref 29, .ref 30, .ref 32, .ref 34, .ref 43, .int M.ru, .int b, .int M.fd]))) 0 1 := sOff.rf.set (by omega) (by omega)
    exact hq _ (CInv.uO (hset_s _ _ _) c hO) (hO.w (by omega) (by omega))
end C2
