
/-! GrownAsks: the table's calls -/
theorem okV64 (v : Int32) : (v.toInt64 = -100 ∨ (-9 ≤ v.toInt64 ∧ v.toInt64 ≤ 9)) ↔ okV v := by
  rw [show (-100 : Int64) = (-100 : Int32).toInt64 from rfl, show (-9 : Int64) = (-9 : Int32).toInt64 from rfl, show (9 : Int64) = (9 : Int32).toInt64 from rfl, il_eq, il_le, il_le]
def stRow (M : MS) (a b d : Int32) : Int32 × MS := if okV a ∧ okV b ∧ okV d then (if M.nr < 8 then (nI M.nr, mkM (upd3 M.f (M.nr * 3) a b d) (M.nr + 1) M.B M.s M.len M.P M.ru M.fa M.fd M.I M.fm M.sz) else (-4, M)) else (-2, M)
section C1
variable {n : Nat} {h : aH} {Q : aQ} {M : MS}
theorem sOff.w {h h' : aH} {a b a' b' : Nat} (k : sOff h h' a b) (h1 : a' ≤ a) (h2 : b ≤ b') : sOff h h' a' b' := fun q hq => k q (by omega)
set_option maxRecDepth 100000 in
set_option maxHeartbeats 400000 in
theorem K_row {a b d : Int32} (c : CInv h M) (m : MOk M) (hq : ∀ h', CInv h' (stRow M a b d).2 → sOff h h' 0 52 → Q (some (.int (stRow M a b d).1)) n h') : Ok 85 [.ref 0, .int a, .int b, .int d] n h Q := by
  obtain ⟨sE, hT, hE⟩ := c.tb
  have hnr := m.nr
  unfold stRow at hq
  refine ok_of kMX10_row kCX10_row (Nat.le_of_ble_eq_true rfl) (fun z => ?_)
  change A z _ _ 0 0 _ 0 [some (.ref 0), some (.int a), some (.int b), some (.int d)] [] _
  refine go_ok okF1 (C := cdX10_row) (by rfl) [24] 40 (by exact Nat.le_of_ble_eq_true rfl) ?_
  simp (maxSteps := 2000000) only [go, stp, inS, ↓reduceIte, Bool.false_eq_true, Nat.reduceLT, Nat.reduceEqDiff, Nat.reduceAdd, ldI, ldL, ldA, st1, st2, okS, List.getElem?_cons_zero, List.getElem?_cons_succ, List.length_cons, List.length_nil, List.set_cons_zero, List.set_cons_succ, callP, callF, popN, ct, Value.category, cI, List.getD_cons_zero, List.getD_cons_succ, and_self, and_true, true_and, Nat.zero_le, Nat.reduceLeDiff, Nat.add_zero, Nat.zero_add, List.nil_append, List.cons_append, Option.toList_some, Option.toList_none, List.append_nil, hset_ss, true_or, or_true, eq_self, beq_self_eq_true, List.drop_succ_cons, List.drop_zero, swT, swL, hset_ap, not_true_eq_false, not_false_eq_true, true_implies, false_implies, implies_true, Int32.reduceLE, Int32.reduceLT, Int32.reduceAdd, Int32.reduceSub, Int32.reduceOfInt, Int32.reduceToNatClampNeg, i10, i01, Nat.add_left_cancel_iff, Nat.left_eq_add, Nat.add_eq_left, cdX10_row, F1, c.o, hT.1, ib0, okV64]
  have bad : ¬ (okV a ∧ okV b ∧ okV d) → A z 85 n 0 0 h 24 [some (.ref 0), some (.int a), some (.int b), some (.int d)] [] Q := fun hc => by
    refine go_ok okF1 (C := cdX10_row) (by rfl) [] 40 (by exact Nat.le_of_ble_eq_true rfl) ?_
    simp (maxSteps := 2000000) only [go, stp, inS, ↓reduceIte, Bool.false_eq_true, Nat.reduceLT, Nat.reduceEqDiff, Nat.reduceAdd, ldI, ldL, ldA, st1, st2, okS, List.getElem?_cons_zero, List.getElem?_cons_succ, List.length_cons, List.length_nil, List.set_cons_zero, List.set_cons_succ, callP, callF, popN, ct, Value.category, cI, List.getD_cons_zero, List.getD_cons_succ, and_self, and_true, true_and, Nat.zero_le, Nat.reduceLeDiff, Nat.add_zero, Nat.zero_add, List.nil_append, List.cons_append, Option.toList_some, Option.toList_none, List.append_nil, hset_ss, true_or, or_true, eq_self, beq_self_eq_true, List.drop_succ_cons, List.drop_zero, swT, swL, hset_ap, not_true_eq_false, not_false_eq_true, true_implies, false_implies, implies_true, Int32.reduceLE, Int32.reduceLT, Int32.reduceAdd, Int32.reduceSub, Int32.reduceOfInt, Int32.reduceToNatClampNeg, i10, i01, Nat.add_left_cancel_iff, Nat.left_eq_add, Nat.add_eq_left, cdX10_row, F1]
    rw [if_neg hc] at hq
    exact hq h c sOff.rf
  refine ⟨fun c1 => bad (fun q => c1 q.1), fun c1 => ⟨fun c2 => bad (fun q => c2 q.2.1), fun c2 => ⟨fun c3 => ?_, fun c3 => bad (fun q => c3 q.2.2)⟩⟩⟩
  refine T_append hT hnr (by omega) hE (fun e => ?_) (fun e h' sE' hT' hE' hO => ?_)
  · refine go_ok okF1 (C := cdX10_row) (by rfl) [] 40 (by exact Nat.le_of_ble_eq_true rfl) ?_
    simp (maxSteps := 2000000) only [go, stp, inS, ↓reduceIte, Bool.false_eq_true, Nat.reduceLT, Nat.reduceEqDiff, Nat.reduceAdd, ldI, ldL, ldA, st1, st2, okS, List.getElem?_cons_zero, List.getElem?_cons_succ, List.length_cons, List.length_nil, List.set_cons_zero, List.set_cons_succ, callP, callF, popN, ct, Value.category, cI, List.getD_cons_zero, List.getD_cons_succ, and_self, and_true, true_and, Nat.zero_le, Nat.reduceLeDiff, Nat.add_zero, Nat.zero_add, List.nil_append, List.cons_append, Option.toList_some, Option.toList_none, List.append_nil, hset_ss, true_or, or_true, eq_self, beq_self_eq_true, List.drop_succ_cons, List.drop_zero, swT, swL, hset_ap, not_true_eq_false, not_false_eq_true, true_implies, false_implies, implies_true, Int32.reduceLE, Int32.reduceLT, Int32.reduceAdd, Int32.reduceSub, Int32.reduceOfInt, Int32.reduceToNatClampNeg, i10, i01, Nat.add_left_cancel_iff, Nat.left_eq_add, Nat.add_eq_left, cdX10_row, F1]
    rw [if_pos ⟨Classical.not_not.mp c1, Classical.not_not.mp c2, Classical.not_not.mp c3⟩, if_neg (by omega)] at hq
    exact hq h c sOff.rf
  · have c' := CInv.uTb hT' hE' c hO
    have e1 : nI (M.nr + 1) - 1 = nI M.nr := pk_sub (a := M.nr + 1) (b := 1) (by omega)
    refine go_ok okF1 (C := cdX10_row) (by rfl) [] 40 (by exact Nat.le_of_ble_eq_true rfl) ?_
    simp (maxSteps := 2000000) only [go, stp, inS, ↓reduceIte, Bool.false_eq_true, Nat.reduceLT, Nat.reduceEqDiff, Nat.reduceAdd, ldI, ldL, ldA, st1, st2, okS, List.getElem?_cons_zero, List.getElem?_cons_succ, List.length_cons, List.length_nil, List.set_cons_zero, List.set_cons_succ, callP, callF, popN, ct, Value.category, cI, List.getD_cons_zero, List.getD_cons_succ, and_self, and_true, true_and, Nat.zero_le, Nat.reduceLeDiff, Nat.add_zero, Nat.zero_add, List.nil_append, List.cons_append, Option.toList_some, Option.toList_none, List.append_nil, hset_ss, true_or, or_true, eq_self, beq_self_eq_true, List.drop_succ_cons, List.drop_zero, swT, swL, hset_ap, not_true_eq_false, not_false_eq_true, true_implies, false_implies, implies_true, Int32.reduceLE, Int32.reduceLT, Int32.reduceAdd, Int32.reduceSub, Int32.reduceOfInt, Int32.reduceToNatClampNeg, i10, i01, Nat.add_left_cancel_iff, Nat.left_eq_add, Nat.add_eq_left, cdX10_row, F1, c'.o, hT'.1, e1]
    rw [if_pos ⟨Classical.not_not.mp c1, Classical.not_not.mp c2, Classical.not_not.mp c3⟩, if_pos e] at hq
    exact hq h' c' (hO.w (by omega) (by omega))
set_option maxRecDepth 100000 in
set_option maxHeartbeats 400000 in
theorem K_at {r d : Int32} (c : CInv h M) (m : MOk M) (hq : Q (some (.int (cS M.f M.nr r d))) n h) : Ok 87 [.ref 0, .int r, .int d] n h Q := by
  obtain ⟨sE, hT, hE⟩ := c.tb
  refine ok_of kMX10_at kCX10_at (Nat.le_of_ble_eq_true rfl) (fun z => ?_)
  change A z _ _ 0 0 _ 0 [some (.ref 0), some (.int r), some (.int d)] [] _
  refine go_ok okF1 (C := cdX10_at) (by rfl) [] 40 (by exact Nat.le_of_ble_eq_true rfl) ?_
  simp (maxSteps := 2000000) only [go, stp, inS, ↓reduceIte, Bool.false_eq_true, Nat.reduceLT, Nat.reduceEqDiff, Nat.reduceAdd, ldI, ldL, ldA, st1, st2, okS, List.getElem?_cons_zero, List.getElem?_cons_succ, List.length_cons, List.length_nil, List.set_cons_zero, List.set_cons_succ, callP, callF, popN, ct, Value.category, cI, List.getD_cons_zero, List.getD_cons_succ, and_self, and_true, true_and, Nat.zero_le, Nat.reduceLeDiff, Nat.add_zero, Nat.zero_add, List.nil_append, List.cons_append, Option.toList_some, Option.toList_none, List.append_nil, hset_ss, true_or, or_true, eq_self, beq_self_eq_true, List.drop_succ_cons, List.drop_zero, swT, swL, hset_ap, not_true_eq_false, not_false_eq_true, true_implies, false_implies, implies_true, Int32.reduceLE, Int32.reduceLT, Int32.reduceAdd, Int32.reduceSub, Int32.reduceOfInt, Int32.reduceToNatClampNeg, i10, i01, Nat.add_left_cancel_iff, Nat.left_eq_add, Nat.add_eq_left, cdX10_at, F1, c.o, hT.1]
  refine T_cell hT m.nr (by omega) ?_
  refine go_ok okF1 (C := cdX10_at) (by rfl) [] 40 (by exact Nat.le_of_ble_eq_true rfl) ?_
  simp (maxSteps := 2000000) only [go, stp, inS, ↓reduceIte, Bool.false_eq_true, Nat.reduceLT, Nat.reduceEqDiff, Nat.reduceAdd, ldI, ldL, ldA, st1, st2, okS, List.getElem?_cons_zero, List.getElem?_cons_succ, List.length_cons, List.length_nil, List.set_cons_zero, List.set_cons_succ, callP, callF, popN, ct, Value.category, cI, List.getD_cons_zero, List.getD_cons_succ, and_self, and_true, true_and, Nat.zero_le, Nat.reduceLeDiff, Nat.add_zero, Nat.zero_add, List.nil_append, List.cons_append, Option.toList_some, Option.toList_none, List.append_nil, hset_ss, true_or, or_true, eq_self, beq_self_eq_true, List.drop_succ_cons, List.drop_zero, swT, swL, hset_ap, not_true_eq_false, not_false_eq_true, true_implies, false_implies, implies_true, Int32.reduceLE, Int32.reduceLT, Int32.reduceAdd, Int32.reduceSub, Int32.reduceOfInt, Int32.reduceToNatClampNeg, i10, i01, Nat.add_left_cancel_iff, Nat.left_eq_add, Nat.add_eq_left, cdX10_at, F1]
  exact hq
def stPut (M : MS) (r d v : Int32) : Int32 × MS := if okV v then (cS M.f M.nr r d, if 0 ≤ r ∧ r < nI M.nr ∧ 0 ≤ d ∧ d < 3 then mkM (upd M.f (r.toNatClampNeg * 3 + d.toNatClampNeg) v) M.nr M.B M.s M.len M.P M.ru M.fa M.fd M.I M.fm M.sz else M) else (-1000, M)
theorem okV_ne {v : Int32} (h : okV v) : ¬ v = -1000 := by
  intro e; subst e; revert h; decide
set_option maxRecDepth 100000 in
set_option maxHeartbeats 400000 in
theorem K_put {r d v : Int32} (c : CInv h M) (m : MOk M) (hq : ∀ h', CInv h' (stPut M r d v).2 → sOff h h' 0 52 → Q (some (.int (stPut M r d v).1)) n h') : Ok 88 [.ref 0, .int r, .int d, .int v] n h Q := by
  obtain ⟨sE, hT, hE⟩ := c.tb
  have hnr := m.nr
  unfold stPut at hq
  refine ok_of kMX10_put kCX10_put (Nat.le_of_ble_eq_true rfl) (fun z => ?_)
  change A z _ _ 0 0 _ 0 [some (.ref 0), some (.int r), some (.int d), some (.int v), none] [] _
  refine go_ok okF1 (C := cdX10_put) (by rfl) [] 40 (by exact Nat.le_of_ble_eq_true rfl) ?_
  simp (maxSteps := 2000000) only [go, stp, inS, ↓reduceIte, Bool.false_eq_true, Nat.reduceLT, Nat.reduceEqDiff, Nat.reduceAdd, ldI, ldL, ldA, st1, st2, okS, List.getElem?_cons_zero, List.getElem?_cons_succ, List.length_cons, List.length_nil, List.set_cons_zero, List.set_cons_succ, callP, callF, popN, ct, Value.category, cI, List.getD_cons_zero, List.getD_cons_succ, and_self, and_true, true_and, Nat.zero_le, Nat.reduceLeDiff, Nat.add_zero, Nat.zero_add, List.nil_append, List.cons_append, Option.toList_some, Option.toList_none, List.append_nil, hset_ss, true_or, or_true, eq_self, beq_self_eq_true, List.drop_succ_cons, List.drop_zero, swT, swL, hset_ap, not_true_eq_false, not_false_eq_true, true_implies, false_implies, implies_true, Int32.reduceLE, Int32.reduceLT, Int32.reduceAdd, Int32.reduceSub, Int32.reduceOfInt, Int32.reduceToNatClampNeg, i10, i01, Nat.add_left_cancel_iff, Nat.left_eq_add, Nat.add_eq_left, cdX10_put, F1, c.o, hT.1, ib0, okV64]
  refine ⟨fun c1 => ?_, fun c1 => ?_⟩
  · rw [if_pos (Classical.not_not.mp c1)] at hq
    refine T_cell hT m.nr (by omega) ?_
    refine go_ok okF1 (C := cdX10_put) (by rfl) [] 40 (by exact Nat.le_of_ble_eq_true rfl) ?_
    simp (maxSteps := 2000000) only [go, stp, inS, ↓reduceIte, Bool.false_eq_true, Nat.reduceLT, Nat.reduceEqDiff, Nat.reduceAdd, ldI, ldL, ldA, st1, st2, okS, List.getElem?_cons_zero, List.getElem?_cons_succ, List.length_cons, List.length_nil, List.set_cons_zero, List.set_cons_succ, callP, callF, popN, ct, Value.category, cI, List.getD_cons_zero, List.getD_cons_succ, and_self, and_true, true_and, Nat.zero_le, Nat.reduceLeDiff, Nat.add_zero, Nat.zero_add, List.nil_append, List.cons_append, Option.toList_some, Option.toList_none, List.append_nil, hset_ss, true_or, or_true, eq_self, beq_self_eq_true, List.drop_succ_cons, List.drop_zero, swT, swL, hset_ap, not_true_eq_false, not_false_eq_true, true_implies, false_implies, implies_true, Int32.reduceLE, Int32.reduceLT, Int32.reduceAdd, Int32.reduceSub, Int32.reduceOfInt, Int32.reduceToNatClampNeg, i10, i01, Nat.add_left_cancel_iff, Nat.left_eq_add, Nat.add_eq_left, cdX10_put, F1, c.o, hT.1]
    refine T_change hT m.nr (by omega) hE (fun q hq => okV_ne (m.cv q hq)) (fun e => ?_) (fun r' d' e1 e2 e3 e4 h' sE' hT' hE' hO => ?_)
    · refine go_ok okF1 (C := cdX10_put) (by rfl) [] 40 (by exact Nat.le_of_ble_eq_true rfl) ?_
      simp (maxSteps := 2000000) only [go, stp, inS, ↓reduceIte, Bool.false_eq_true, Nat.reduceLT, Nat.reduceEqDiff, Nat.reduceAdd, ldI, ldL, ldA, st1, st2, okS, List.getElem?_cons_zero, List.getElem?_cons_succ, List.length_cons, List.length_nil, List.set_cons_zero, List.set_cons_succ, callP, callF, popN, ct, Value.category, cI, List.getD_cons_zero, List.getD_cons_succ, and_self, and_true, true_and, Nat.zero_le, Nat.reduceLeDiff, Nat.add_zero, Nat.zero_add, List.nil_append, List.cons_append, Option.toList_some, Option.toList_none, List.append_nil, hset_ss, true_or, or_true, eq_self, beq_self_eq_true, List.drop_succ_cons, List.drop_zero, swT, swL, hset_ap, not_true_eq_false, not_false_eq_true, true_implies, false_implies, implies_true, Int32.reduceLE, Int32.reduceLT, Int32.reduceAdd, Int32.reduceSub, Int32.reduceOfInt, Int32.reduceToNatClampNeg, i10, i01, Nat.add_left_cancel_iff, Nat.left_eq_add, Nat.add_eq_left, cdX10_put, F1]
      rw [if_neg e] at hq
      exact hq h c sOff.rf
    · refine go_ok okF1 (C := cdX10_put) (by rfl) [] 40 (by exact Nat.le_of_ble_eq_true rfl) ?_
      simp (maxSteps := 2000000) only [go, stp, inS, ↓reduceIte, Bool.false_eq_true, Nat.reduceLT, Nat.reduceEqDiff, Nat.reduceAdd, ldI, ldL, ldA, st1, st2, okS, List.getElem?_cons_zero, List.getElem?_cons_succ, List.length_cons, List.length_nil, List.set_cons_zero, List.set_cons_succ, callP, callF, popN, ct, Value.category, cI, List.getD_cons_zero, List.getD_cons_succ, and_self, and_true, true_and, Nat.zero_le, Nat.reduceLeDiff, Nat.add_zero, Nat.zero_add, List.nil_append, List.cons_append, Option.toList_some, Option.toList_none, List.append_nil, hset_ss, true_or, or_true, eq_self, beq_self_eq_true, List.drop_succ_cons, List.drop_zero, swT, swL, hset_ap, not_true_eq_false, not_false_eq_true, true_implies, false_implies, implies_true, Int32.reduceLE, Int32.reduceLT, Int32.reduceAdd, Int32.reduceSub, Int32.reduceOfInt, Int32.reduceToNatClampNeg, i10, i01, Nat.add_left_cancel_iff, Nat.left_eq_add, Nat.add_eq_left, cdX10_put, F1]
      subst e1 e2
      rw [if_pos ⟨(i_le (a := 0) (by omega) (by omega)).mpr (by omega), (i_lt (by omega) (by omega)).mpr e3, (i_le (a := 0) (by omega) (by omega)).mpr (by omega), (i_lt (b := 3) (by omega) (by omega)).mpr e4⟩, i_cl (by omega), i_cl (by omega)] at hq
      exact hq h' (CInv.uTb hT' hE' c hO) (hO.w (by omega) (by omega))
  · rw [if_neg c1] at hq
    exact hq h c sOff.rf
set_option maxRecDepth 100000 in
set_option maxHeartbeats 400000 in
theorem K_empty (c : CInv h M) (hq : ∀ h', CInv h' (mkM M.f 0 M.B M.s M.len M.P M.ru M.fa M.fd M.I M.fm M.sz) → sOff h h' 0 52 → Q (some (.int (nI M.nr))) n h') : Ok 89 [.ref 0] n h Q := by
  obtain ⟨sE, hT, hE⟩ := c.tb
  refine ok_of kMX10_empty kCX10_empty (Nat.le_of_ble_eq_true rfl) (fun z => ?_)
  change A z _ _ 0 0 _ 0 [some (.ref 0), none] [] _
  refine go_ok okF1 (C := cdX10_empty) (by rfl) [] 40 (by exact Nat.le_of_ble_eq_true rfl) ?_
  simp (maxSteps := 2000000) only [go, stp, inS, ↓reduceIte, Bool.false_eq_true, Nat.reduceLT, Nat.reduceEqDiff, Nat.reduceAdd, ldI, ldL, ldA, st1, st2, okS, List.getElem?_cons_zero, List.getElem?_cons_succ, List.length_cons, List.length_nil, List.set_cons_zero, List.set_cons_succ, callP, callF, popN, ct, Value.category, cI, List.getD_cons_zero, List.getD_cons_succ, and_self, and_true, true_and, Nat.zero_le, Nat.reduceLeDiff, Nat.add_zero, Nat.zero_add, List.nil_append, List.cons_append, Option.toList_some, Option.toList_none, List.append_nil, hset_ss, true_or, or_true, eq_self, beq_self_eq_true, List.drop_succ_cons, List.drop_zero, swT, swL, hset_ap, not_true_eq_false, not_false_eq_true, true_implies, false_implies, implies_true, Int32.reduceLE, Int32.reduceLT, Int32.reduceAdd, Int32.reduceSub, Int32.reduceOfInt, Int32.reduceToNatClampNeg, i10, i01, Nat.add_left_cancel_iff, Nat.left_eq_add, Nat.add_eq_left, cdX10_empty, F1, c.o, hT.1]
  refine T_clear hT (fun h' hT' hO => ?_)
  refine go_ok okF1 (C := cdX10_empty) (by rfl) [] 40 (by exact Nat.le_of_ble_eq_true rfl) ?_
  simp (maxSteps := 2000000) only [go, stp, inS, ↓reduceIte, Bool.false_eq_true, Nat.reduceLT, Nat.reduceEqDiff, Nat.reduceAdd, ldI, ldL, ldA, st1, st2, okS, List.getElem?_cons_zero, List.getElem?_cons_succ, List.length_cons, List.length_nil, List.set_cons_zero, List.set_cons_succ, callP, callF, popN, ct, Value.category, cI, List.getD_cons_zero, List.getD_cons_succ, and_self, and_true, true_and, Nat.zero_le, Nat.reduceLeDiff, Nat.add_zero, Nat.zero_add, List.nil_append, List.cons_append, Option.toList_some, Option.toList_none, List.append_nil, hset_ss, true_or, or_true, eq_self, beq_self_eq_true, List.drop_succ_cons, List.drop_zero, swT, swL, hset_ap, not_true_eq_false, not_false_eq_true, true_implies, false_implies, implies_true, Int32.reduceLE, Int32.reduceLT, Int32.reduceAdd, Int32.reduceSub, Int32.reduceOfInt, Int32.reduceToNatClampNeg, i10, i01, Nat.add_left_cancel_iff, Nat.left_eq_add, Nat.add_eq_left, cdX10_empty, F1]
  exact hq h' (CInv.uTb hT' (fun r hr => absurd hr (by omega)) c hO) (hO.w (by omega) (by omega))
set_option maxRecDepth 100000 in
set_option maxHeartbeats 400000 in
theorem K_textOf {x : Int32} (c : CInv h M) (hq0 : x = 0 → Q (some (.ref 4)) n h) (hq1 : x = 1 → Q (some (.ref 10)) n h) (hq2 : ¬ x = 0 → ¬ x = 1 → Q (some .null) n h) : Ok 122 [.ref 0, .int x] n h Q := by
  refine ok_of kMX10_textOf kCX10_textOf (Nat.le_of_ble_eq_true rfl) (fun z => ?_)
  change A z _ _ 0 0 _ 0 [some (.ref 0), some (.int x)] [] _
  refine go_ok okF1 (C := cdX10_textOf) (by rfl) [] 40 (by exact Nat.le_of_ble_eq_true rfl) ?_
  simp (maxSteps := 2000000) only [go, stp, inS, ↓reduceIte, Bool.false_eq_true, Nat.reduceLT, Nat.reduceEqDiff, Nat.reduceAdd, ldI, ldL, ldA, st1, st2, okS, List.getElem?_cons_zero, List.getElem?_cons_succ, List.length_cons, List.length_nil, List.set_cons_zero, List.set_cons_succ, callP, callF, popN, ct, Value.category, cI, List.getD_cons_zero, List.getD_cons_succ, and_self, and_true, true_and, Nat.zero_le, Nat.reduceLeDiff, Nat.add_zero, Nat.zero_add, List.nil_append, List.cons_append, Option.toList_some, Option.toList_none, List.append_nil, hset_ss, true_or, or_true, eq_self, beq_self_eq_true, List.drop_succ_cons, List.drop_zero, swT, swL, hset_ap, not_true_eq_false, not_false_eq_true, true_implies, false_implies, implies_true, Int32.reduceLE, Int32.reduceLT, Int32.reduceAdd, Int32.reduceSub, Int32.reduceOfInt, Int32.reduceToNatClampNeg, i10, i01, Nat.add_left_cancel_iff, Nat.left_eq_add, Nat.add_eq_left, cdX10_textOf, F1, c.o]
  exact ⟨fun c1 => ⟨fun c2 => hq2 c1 c2, fun c2 => hq1 c2⟩, fun c1 => hq0 c1⟩
set_option maxRecDepth 100000 in
set_option maxHeartbeats 400000 in
theorem K_sheetOf {x : Int32} (c : CInv h M) (hq0 : ∀ s, s < 4 → x = nI s → Q (some (.ref (44 + 2 * s))) n h) (hq2 : ¬ (0 ≤ x ∧ x < 4) → Q (some .null) n h) : Ok 123 [.ref 0, .int x] n h Q := by
  obtain ⟨g, hg, hg'⟩ := c.sa
  refine ok_of kMX10_sheetOf kCX10_sheetOf (Nat.le_of_ble_eq_true rfl) (fun z => ?_)
  change A z _ _ 0 0 _ 0 [some (.ref 0), some (.int x)] [] _
  refine go_ok okF1 (C := cdX10_sheetOf) (by rfl) [] 40 (by exact Nat.le_of_ble_eq_true rfl) ?_
  simp (maxSteps := 2000000) only [go, stp, inS, ↓reduceIte, Bool.false_eq_true, Nat.reduceLT, Nat.reduceEqDiff, Nat.reduceAdd, ldI, ldL, ldA, st1, st2, okS, List.getElem?_cons_zero, List.getElem?_cons_succ, List.length_cons, List.length_nil, List.set_cons_zero, List.set_cons_succ, callP, callF, popN, ct, Value.category, cI, List.getD_cons_zero, List.getD_cons_succ, and_self, and_true, true_and, Nat.zero_le, Nat.reduceLeDiff, Nat.add_zero, Nat.zero_add, List.nil_append, List.cons_append, Option.toList_some, Option.toList_none, List.append_nil, hset_ss, true_or, or_true, eq_self, beq_self_eq_true, List.drop_succ_cons, List.drop_zero, swT, swL, hset_ap, not_true_eq_false, not_false_eq_true, true_implies, false_implies, implies_true, Int32.reduceLE, Int32.reduceLT, Int32.reduceAdd, Int32.reduceSub, Int32.reduceOfInt, Int32.reduceToNatClampNeg, i10, i01, Nat.add_left_cancel_iff, Nat.left_eq_add, Nat.add_eq_left, cdX10_sheetOf, F1, c.o, hg]
  refine ⟨fun c1 => hq2 (fun q => absurd q.1 (i_nle.mpr c1)), fun c1 => ⟨fun c2 => hq2 (fun q => absurd q.2 (i_nlt.mpr c2)), fun c2 => ?_⟩⟩
  obtain ⟨s, hs, rfl⟩ := i_of (n := 4) (by omega) c1 (i_nle.mp c2)
  rw [i_cl (by omega), hg' s hs]
  exact ⟨vp_in_nI (by omega) (by omega), hq0 s hs rfl⟩
def fdM (M : MS) (k : Int32) : MS := mkM M.f M.nr M.B M.s M.len M.P M.ru M.fa k M.I M.fm M.sz
set_option maxRecDepth 100000 in
set_option maxHeartbeats 400000 in
theorem K_found {k : Int32} (c : CInv h M) (hq : ∀ h', CInv h' (fdM M k) → sOff h h' 0 1 → Q (some (.int (-10 - k))) n h') : Ok 124 [.ref 0, .int k] n h Q := by
  refine ok_of kMX10_found kCX10_found (Nat.le_of_ble_eq_true rfl) (fun z => ?_)
  change A z _ _ 0 0 _ 0 [some (.ref 0), some (.int k)] [] _
  refine go_ok okF1 (C := cdX10_found) (by rfl) [] 40 (by exact Nat.le_of_ble_eq_true rfl) ?_
  simp (maxSteps := 2000000) only [go, stp, inS, ↓reduceIte, Bool.false_eq_true, Nat.reduceLT, Nat.reduceEqDiff, Nat.reduceAdd, ldI, ldL, ldA, st1, st2, okS, List.getElem?_cons_zero, List.getElem?_cons_succ, List.length_cons, List.length_nil, List.set_cons_zero, List.set_cons_succ, callP, callF, popN, ct, Value.category, cI, List.getD_cons_zero, List.getD_cons_succ, and_self, and_true, true_and, Nat.zero_le, Nat.reduceLeDiff, Nat.add_zero, Nat.zero_add, List.nil_append, List.cons_append, Option.toList_some, Option.toList_none, List.append_nil, hset_ss, true_or, or_true, eq_self, beq_self_eq_true, List.drop_succ_cons, List.drop_zero, swT, swL, hset_ap, not_true_eq_false, not_false_eq_true, true_implies, false_implies, implies_true, Int32.reduceLE, Int32.reduceLT, Int32.reduceAdd, Int32.reduceSub, Int32.reduceOfInt, Int32.reduceToNatClampNeg, i10, i01, Nat.add_left_cancel_iff, Nat.left_eq_add, Nat.add_eq_left, cdX10_found, F1, c.o]
  have hO : sOff h (hset h 0 (.inl (10, [.ref 1, .ref 4, .ref 10, .ref 16, .ref 22, .ref 25, .ref 28, .ref 29, .ref 30, .ref 32, .ref 34, .ref 43, .int M.ru, .int M.fa, .int k]))) 0 1 := sOff.rf.set (by omega) (by omega)
  exact hq _ (CInv.uO (hset_s _ _ _) c hO) hO
end C1
