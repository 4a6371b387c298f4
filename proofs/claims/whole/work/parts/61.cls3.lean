
/-! GrownAsks: the sheets' calls -/
def shM (M : MS) (t : Nat) (I : Nat → Int64) (fm : Int32) (sz : Nat) : MS := mkM M.f M.nr M.B M.s M.len M.P M.ru M.fa M.fd (fset M.I t I) (fset M.fm t fm) (fset M.sz t sz)
theorem t4 {t : Nat} (h : t < 4) : 0 ≤ nI t ∧ nI t < 4 := ⟨(i_le (a := 0) (by omega) (by omega)).mpr (by omega), (i_lt (b := 4) (by omega) (by omega)).mpr h⟩
section C3
variable {n : Nat} {h : aH} {Q : aQ} {M : MS}
def stSheet (M : MS) (x f k : Int32) : Int32 × MS := if (0 ≤ x ∧ x < 4) ∧ (0 ≤ f ∧ f < 4) ∧ k ≤ 48 then (if k < 0 then (-15, fdM M 5) else (k, shM M x.toNatClampNeg (zrI (M.I x.toNatClampNeg)) f k.toNatClampNeg)) else (-2, M)
set_option maxRecDepth 100000 in
set_option maxHeartbeats 400000 in
theorem K_sheet {x f k : Int32} (c : CInv h M) (hq : ∀ h', CInv h' (stSheet M x f k).2 → sOff h h' 0 52 → Q (some (.int (stSheet M x f k).1)) n h') : Ok 113 [.ref 0, .int x, .int f, .int k] n h Q := by
  unfold stSheet at hq
  refine ok_of kMX10_sheet kCX10_sheet (Nat.le_of_ble_eq_true rfl) (fun z => ?_)
  change A z _ _ 0 0 _ 0 [some (.ref 0), some (.int x), some (.int f), some (.int k), none] [] _
  refine go_ok okF1 (C := cdX10_sheet) (by rfl) [] 40 (by exact Nat.le_of_ble_eq_true rfl) ?_
  simp (maxSteps := 2000000) only [go, stp, inS, ↓reduceIte, Bool.false_eq_true, Nat.reduceLT, Nat.reduceEqDiff, Nat.reduceAdd, ldI, ldL, ldA, st1, st2, okS, List.getElem?_cons_zero, List.getElem?_cons_succ, List.length_cons, List.length_nil, List.set_cons_zero, List.set_cons_succ, callP, callF, popN, ct, Value.category, cI, List.getD_cons_zero, List.getD_cons_succ, and_self, and_true, true_and, Nat.zero_le, Nat.reduceLeDiff, Nat.add_zero, Nat.zero_add, List.nil_append, List.cons_append, Option.toList_some, Option.toList_none, List.append_nil, hset_ss, true_or, or_true, eq_self, beq_self_eq_true, List.drop_succ_cons, List.drop_zero, swT, swL, hset_ap, not_true_eq_false, not_false_eq_true, true_implies, false_implies, implies_true, Int32.reduceLE, Int32.reduceLT, Int32.reduceAdd, Int32.reduceSub, Int32.reduceOfInt, Int32.reduceToNatClampNeg, i10, i01, Nat.add_left_cancel_iff, Nat.left_eq_add, Nat.add_eq_left, cdX10_sheet, F1, c.o]
  refine K_sheetOf c (fun s hs e => ?_) (fun e => ?_)
  · subst e
    rw [i_cl (show s < 2147483648 by omega)] at hq
    have hS := c.sh s hs
    have bad : ¬ ((0 ≤ f ∧ f < 4) ∧ k ≤ 48) → A z 113 n 0 0 h 25 [some (.ref 0), some (.int (nI s)), some (.int f), some (.int k), some (.ref (44 + 2 * s))] [] Q := fun hc => by
      refine go_ok okF1 (C := cdX10_sheet) (by rfl) [] 40 (by exact Nat.le_of_ble_eq_true rfl) ?_
      simp (maxSteps := 2000000) only [go, stp, inS, ↓reduceIte, Bool.false_eq_true, Nat.reduceLT, Nat.reduceEqDiff, Nat.reduceAdd, ldI, ldL, ldA, st1, st2, okS, List.getElem?_cons_zero, List.getElem?_cons_succ, List.length_cons, List.length_nil, List.set_cons_zero, List.set_cons_succ, callP, callF, popN, ct, Value.category, cI, List.getD_cons_zero, List.getD_cons_succ, and_self, and_true, true_and, Nat.zero_le, Nat.reduceLeDiff, Nat.add_zero, Nat.zero_add, List.nil_append, List.cons_append, Option.toList_some, Option.toList_none, List.append_nil, hset_ss, true_or, or_true, eq_self, beq_self_eq_true, List.drop_succ_cons, List.drop_zero, swT, swL, hset_ap, not_true_eq_false, not_false_eq_true, true_implies, false_implies, implies_true, Int32.reduceLE, Int32.reduceLT, Int32.reduceAdd, Int32.reduceSub, Int32.reduceOfInt, Int32.reduceToNatClampNeg, i10, i01, Nat.add_left_cancel_iff, Nat.left_eq_add, Nat.add_eq_left, cdX10_sheet, F1]
      have hq := hq h
      rw [if_neg (fun q => hc q.2)] at hq
      exact hq c sOff.rf
    refine go_ok okF1 (C := cdX10_sheet) (by rfl) [25] 40 (by exact Nat.le_of_ble_eq_true rfl) ?_
    simp (maxSteps := 2000000) only [go, stp, inS, ↓reduceIte, Bool.false_eq_true, Nat.reduceLT, Nat.reduceEqDiff, Nat.reduceAdd, ldI, ldL, ldA, st1, st2, okS, List.getElem?_cons_zero, List.getElem?_cons_succ, List.length_cons, List.length_nil, List.set_cons_zero, List.set_cons_succ, callP, callF, popN, ct, Value.category, cI, List.getD_cons_zero, List.getD_cons_succ, and_self, and_true, true_and, Nat.zero_le, Nat.reduceLeDiff, Nat.add_zero, Nat.zero_add, List.nil_append, List.cons_append, Option.toList_some, Option.toList_none, List.append_nil, hset_ss, true_or, or_true, eq_self, beq_self_eq_true, List.drop_succ_cons, List.drop_zero, swT, swL, hset_ap, not_true_eq_false, not_false_eq_true, true_implies, false_implies, implies_true, Int32.reduceLE, Int32.reduceLT, Int32.reduceAdd, Int32.reduceSub, Int32.reduceOfInt, Int32.reduceToNatClampNeg, i10, i01, Nat.add_left_cancel_iff, Nat.left_eq_add, Nat.add_eq_left, cdX10_sheet, F1, hS.1, ib0, c.o]
    refine ⟨fun c1 => bad (fun q => c1 q.1), fun c1 => ⟨fun c2 => ⟨fun c3 => ?_, fun c3 => ?_⟩, fun c2 => bad (fun q => c2 q.2)⟩⟩
    · have c1 := Classical.not_not.mp c1
      obtain ⟨j, hj, rfl⟩ := nI_of (i_nlt.mpr c3)
      have hj48 : j ≤ 48 := (i_le (b := 48) (by omega) (by omega)).mp c2
      rw [i_cl (show j < 2147483648 by omega)] at hq
      refine S_renew hS hj48 (fun h' hS' hO => ?_)
      refine go_ok okF1 (C := cdX10_sheet) (by rfl) [] 40 (by exact Nat.le_of_ble_eq_true rfl) ?_
      simp (maxSteps := 2000000) only [go, stp, inS, ↓reduceIte, Bool.false_eq_true, Nat.reduceLT, Nat.reduceEqDiff, Nat.reduceAdd, ldI, ldL, ldA, st1, st2, okS, List.getElem?_cons_zero, List.getElem?_cons_succ, List.length_cons, List.length_nil, List.set_cons_zero, List.set_cons_succ, callP, callF, popN, ct, Value.category, cI, List.getD_cons_zero, List.getD_cons_succ, and_self, and_true, true_and, Nat.zero_le, Nat.reduceLeDiff, Nat.add_zero, Nat.zero_add, List.nil_append, List.cons_append, Option.toList_some, Option.toList_none, List.append_nil, hset_ss, true_or, or_true, eq_self, beq_self_eq_true, List.drop_succ_cons, List.drop_zero, swT, swL, hset_ap, not_true_eq_false, not_false_eq_true, true_implies, false_implies, implies_true, Int32.reduceLE, Int32.reduceLT, Int32.reduceAdd, Int32.reduceSub, Int32.reduceOfInt, Int32.reduceToNatClampNeg, i10, i01, Nat.add_left_cancel_iff, Nat.left_eq_add, Nat.add_eq_left, cdX10_sheet, F1]
      have hq := hq h'
      rw [if_pos ⟨t4 hs, c1, c2⟩, if_neg (i_nlt.mpr c3)] at hq
      exact hq (CInv.uSh hs hS' c hO) (hO.w (by omega) (by omega))
    · have c1 := Classical.not_not.mp c1
      refine K_found c (fun h' c' hO => ?_)
      refine go_ok okF1 (C := cdX10_sheet) (by rfl) [] 40 (by exact Nat.le_of_ble_eq_true rfl) ?_
      simp (maxSteps := 2000000) only [go, stp, inS, ↓reduceIte, Bool.false_eq_true, Nat.reduceLT, Nat.reduceEqDiff, Nat.reduceAdd, ldI, ldL, ldA, st1, st2, okS, List.getElem?_cons_zero, List.getElem?_cons_succ, List.length_cons, List.length_nil, List.set_cons_zero, List.set_cons_succ, callP, callF, popN, ct, Value.category, cI, List.getD_cons_zero, List.getD_cons_succ, and_self, and_true, true_and, Nat.zero_le, Nat.reduceLeDiff, Nat.add_zero, Nat.zero_add, List.nil_append, List.cons_append, Option.toList_some, Option.toList_none, List.append_nil, hset_ss, true_or, or_true, eq_self, beq_self_eq_true, List.drop_succ_cons, List.drop_zero, swT, swL, hset_ap, not_true_eq_false, not_false_eq_true, true_implies, false_implies, implies_true, Int32.reduceLE, Int32.reduceLT, Int32.reduceAdd, Int32.reduceSub, Int32.reduceOfInt, Int32.reduceToNatClampNeg, i10, i01, Nat.add_left_cancel_iff, Nat.left_eq_add, Nat.add_eq_left, cdX10_sheet, F1]
      have hq := hq h'
      rw [if_pos ⟨t4 hs, c1, c2⟩, if_pos (i_nle.mp c3)] at hq
      exact hq c' (hO.w (by omega) (by omega))
  · refine go_ok okF1 (C := cdX10_sheet) (by rfl) [] 40 (by exact Nat.le_of_ble_eq_true rfl) ?_
    simp (maxSteps := 2000000) only [go, stp, inS, ↓reduceIte, Bool.false_eq_true, Nat.reduceLT, Nat.reduceEqDiff, Nat.reduceAdd, ldI, ldL, ldA, st1, st2, okS, List.getElem?_cons_zero, List.getElem?_cons_succ, List.length_cons, List.length_nil, List.set_cons_zero, List.set_cons_succ, callP, callF, popN, ct, Value.category, cI, List.getD_cons_zero, List.getD_cons_succ, and_self, and_true, true_and, Nat.zero_le, Nat.reduceLeDiff, Nat.add_zero, Nat.zero_add, List.nil_append, List.cons_append, Option.toList_some, Option.toList_none, List.append_nil, hset_ss, true_or, or_true, eq_self, beq_self_eq_true, List.drop_succ_cons, List.drop_zero, swT, swL, hset_ap, not_true_eq_false, not_false_eq_true, true_implies, false_implies, implies_true, Int32.reduceLE, Int32.reduceLT, Int32.reduceAdd, Int32.reduceSub, Int32.reduceOfInt, Int32.reduceToNatClampNeg, i10, i01, Nat.add_left_cancel_iff, Nat.left_eq_add, Nat.add_eq_left, cdX10_sheet, F1]
    have hq := hq h
    rw [if_neg (fun q => e q.1)] at hq
    exact hq c sOff.rf
end C3
