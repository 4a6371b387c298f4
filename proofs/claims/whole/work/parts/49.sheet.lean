
/-! GrownAsks$Sheet -/
def ShAt (h : aH) (t : Nat) (I : Nat → Int64) (fm : Int32) (sz : Nat) : Prop := h t = some (.inl (5, [.ref (t + 1), .int fm, .int (nI sz)])) ∧ h (t + 1) = some (.inr (48, .inr (.inl I)))
theorem ShAt.kept {h h' : aH} {t : Nat} {I : Nat → Int64} {fm : Int32} {sz : Nat} (hS : ShAt h t I fm sz) (hk : ∀ q, t ≤ q → q < t + 2 → h' q = h q) : ShAt h' t I fm sz := ⟨by rw [hk _ (by omega) (by omega)]; exact hS.1, by rw [hk _ (by omega) (by omega)]; exact hS.2⟩
def nwF (f : Int32) (v : Int64) : Int64 := if f = 0 then v.toInt32.toInt8.toInt32.toInt64 else if f = 1 then v.toInt32.toInt16.toInt32.toInt64 else if f = 2 then v.toInt32.toInt64 else v
section SH
variable {n : Nat} {h : aH} {Q : aQ} {t : Nat} {I : Nat → Int64} {fm : Int32} {sz : Nat}
set_option maxRecDepth 100000 in
set_option maxHeartbeats 400000 in
theorem S_isLost (hS : ShAt h t I fm sz) (hq : Q (some (.int (if fm = -1 then 1 else 0))) n h) : Ok 37 [.ref t] n h Q := by
  refine ok_of kMX5_isLost kCX5_isLost (Nat.le_of_ble_eq_true rfl) (fun z => ?_)
  change A z _ _ 0 0 _ 0 [some (.ref t)] [] _
  refine go_ok okF1 (C := cdX5_isLost) (by rfl) [] 20 (by exact Nat.le_of_ble_eq_true rfl) ?_
  simp (maxSteps := 2000000) only [go, stp, inS, ↓reduceIte, Bool.false_eq_true, Nat.reduceLT, Nat.reduceEqDiff, Nat.reduceAdd, ldI, ldL, ldA, st1, st2, okS, List.getElem?_cons_zero, List.getElem?_cons_succ, List.length_cons, List.length_nil, List.set_cons_zero, List.set_cons_succ, callP, callF, popN, ct, Value.category, cI, List.getD_cons_zero, List.getD_cons_succ, and_self, and_true, true_and, Nat.zero_le, Nat.reduceLeDiff, Nat.add_zero, Nat.zero_add, List.nil_append, List.cons_append, Option.toList_some, Option.toList_none, List.append_nil, hset_ss, true_or, or_true, eq_self, beq_self_eq_true, List.drop_succ_cons, List.drop_zero, swT, swL, hset_ap, not_true_eq_false, not_false_eq_true, true_implies, false_implies, implies_true, Int32.reduceLE, Int32.reduceLT, Int32.reduceAdd, Int32.reduceSub, Int32.reduceOfInt, Int32.reduceToNatClampNeg, i10, i01, Nat.add_left_cancel_iff, Nat.left_eq_add, Nat.add_eq_left, cdX5_isLost, F1, hS.1]
  exact ⟨fun c => by rw [if_neg c] at hq; exact hq, fun c => by rw [if_pos c] at hq; exact hq⟩
set_option maxRecDepth 100000 in
set_option maxHeartbeats 400000 in
theorem S_hasItem {i : Int32} (hS : ShAt h t I fm sz) (hz : sz ≤ 48) (hq : Q (some (.int (if 0 ≤ i ∧ i < nI sz then 1 else 0))) n h) : Ok 39 [.ref t, .int i] n h Q := by
  refine ok_of kMX5_hasItem kCX5_hasItem (Nat.le_of_ble_eq_true rfl) (fun z => ?_)
  change A z _ _ 0 0 _ 0 [some (.ref t), some (.int i)] [] _
  refine go_ok okF1 (C := cdX5_hasItem) (by rfl) [] 20 (by exact Nat.le_of_ble_eq_true rfl) ?_
  simp (maxSteps := 2000000) only [go, stp, inS, ↓reduceIte, Bool.false_eq_true, Nat.reduceLT, Nat.reduceEqDiff, Nat.reduceAdd, ldI, ldL, ldA, st1, st2, okS, List.getElem?_cons_zero, List.getElem?_cons_succ, List.length_cons, List.length_nil, List.set_cons_zero, List.set_cons_succ, callP, callF, popN, ct, Value.category, cI, List.getD_cons_zero, List.getD_cons_succ, and_self, and_true, true_and, Nat.zero_le, Nat.reduceLeDiff, Nat.add_zero, Nat.zero_add, List.nil_append, List.cons_append, Option.toList_some, Option.toList_none, List.append_nil, hset_ss, true_or, or_true, eq_self, beq_self_eq_true, List.drop_succ_cons, List.drop_zero, swT, swL, hset_ap, not_true_eq_false, not_false_eq_true, true_implies, false_implies, implies_true, Int32.reduceLE, Int32.reduceLT, Int32.reduceAdd, Int32.reduceSub, Int32.reduceOfInt, Int32.reduceToNatClampNeg, i10, i01, Nat.add_left_cancel_iff, Nat.left_eq_add, Nat.add_eq_left, cdX5_hasItem, F1, hS.1]
  refine ⟨fun c1 => ?_, fun c1 => ⟨fun c2 => ?_, fun c2 => ⟨fun c3 => ?_, fun c3 => ?_⟩⟩⟩
  · rw [if_neg (fun q => absurd q.1 (i_nle.mpr c1))] at hq; exact hq
  · rw [if_neg (fun q => absurd q.2 (i_nlt.mpr c2))] at hq; exact hq
  · obtain ⟨j, hj, rfl⟩ := i_of (n := sz) (by omega) c1 (i_nle.mp c2)
    exact absurd ((i_le (a := 48) (by omega) (by omega)).mp c3) (by omega)
  · rw [if_pos ⟨i_nlt.mp c1, i_nle.mp c2⟩] at hq; exact hq
set_option maxRecDepth 100000 in
set_option maxHeartbeats 400000 in
theorem S_hasSpan {i m : Int32} (hS : ShAt h t I fm sz) (hz : sz ≤ 48) (hq : Q (some (.int (if 0 ≤ i ∧ 0 ≤ m ∧ i ≤ nI sz ∧ m ≤ nI sz - i then 1 else 0))) n h) : Ok 40 [.ref t, .int i, .int m] n h Q := by
  refine ok_of kMX5_hasSpan kCX5_hasSpan (Nat.le_of_ble_eq_true rfl) (fun z => ?_)
  change A z _ _ 0 0 _ 0 [some (.ref t), some (.int i), some (.int m)] [] _
  refine go_ok okF1 (C := cdX5_hasSpan) (by rfl) [] 20 (by exact Nat.le_of_ble_eq_true rfl) ?_
  simp (maxSteps := 2000000) only [go, stp, inS, ↓reduceIte, Bool.false_eq_true, Nat.reduceLT, Nat.reduceEqDiff, Nat.reduceAdd, ldI, ldL, ldA, st1, st2, okS, List.getElem?_cons_zero, List.getElem?_cons_succ, List.length_cons, List.length_nil, List.set_cons_zero, List.set_cons_succ, callP, callF, popN, ct, Value.category, cI, List.getD_cons_zero, List.getD_cons_succ, and_self, and_true, true_and, Nat.zero_le, Nat.reduceLeDiff, Nat.add_zero, Nat.zero_add, List.nil_append, List.cons_append, Option.toList_some, Option.toList_none, List.append_nil, hset_ss, true_or, or_true, eq_self, beq_self_eq_true, List.drop_succ_cons, List.drop_zero, swT, swL, hset_ap, not_true_eq_false, not_false_eq_true, true_implies, false_implies, implies_true, Int32.reduceLE, Int32.reduceLT, Int32.reduceAdd, Int32.reduceSub, Int32.reduceOfInt, Int32.reduceToNatClampNeg, i10, i01, Nat.add_left_cancel_iff, Nat.left_eq_add, Nat.add_eq_left, cdX5_hasSpan, F1, hS.1]
  refine ⟨fun c1 => ?_, fun c1 => ⟨fun c2 => ?_, fun c2 => ⟨fun c3 => ?_, fun c3 => ⟨fun c4 => ?_, fun c4 => ?_⟩⟩⟩⟩
  · rw [if_neg (fun q => absurd q.1 (i_nle.mpr c1))] at hq; exact hq
  · rw [if_neg (fun q => absurd q.2.1 (i_nle.mpr c2))] at hq; exact hq
  · rw [if_neg (fun q => absurd q.2.2.1 (i_nle.mpr c3))] at hq; exact hq
  · rw [if_neg (fun q => absurd q.2.2.2 (i_nle.mpr c4))] at hq; exact hq
  · rw [if_pos ⟨i_nlt.mp c1, i_nlt.mp c2, i_nlt.mp c3, i_nlt.mp c4⟩] at hq; exact hq
set_option maxRecDepth 100000 in
set_option maxHeartbeats 400000 in
theorem S_item {i : Int32} (hS : ShAt h t I fm sz) (hz : sz ≤ 48) (hq : Q (some (.long (if 0 ≤ i ∧ i < nI sz then I i.toNatClampNeg else 0))) n h) : Ok 41 [.ref t, .int i] n h Q := by
  refine ok_of kMX5_item kCX5_item (Nat.le_of_ble_eq_true rfl) (fun z => ?_)
  change A z _ _ 0 0 _ 0 [some (.ref t), some (.int i)] [] _
  refine go_ok okF1 (C := cdX5_item) (by rfl) [] 20 (by exact Nat.le_of_ble_eq_true rfl) ?_
  simp (maxSteps := 2000000) only [go, stp, inS, ↓reduceIte, Bool.false_eq_true, Nat.reduceLT, Nat.reduceEqDiff, Nat.reduceAdd, ldI, ldL, ldA, st1, st2, okS, List.getElem?_cons_zero, List.getElem?_cons_succ, List.length_cons, List.length_nil, List.set_cons_zero, List.set_cons_succ, callP, callF, popN, ct, Value.category, cI, List.getD_cons_zero, List.getD_cons_succ, and_self, and_true, true_and, Nat.zero_le, Nat.reduceLeDiff, Nat.add_zero, Nat.zero_add, List.nil_append, List.cons_append, Option.toList_some, Option.toList_none, List.append_nil, hset_ss, true_or, or_true, eq_self, beq_self_eq_true, List.drop_succ_cons, List.drop_zero, swT, swL, hset_ap, not_true_eq_false, not_false_eq_true, true_implies, false_implies, implies_true, Int32.reduceLE, Int32.reduceLT, Int32.reduceAdd, Int32.reduceSub, Int32.reduceOfInt, Int32.reduceToNatClampNeg, i10, i01, Nat.add_left_cancel_iff, Nat.left_eq_add, Nat.add_eq_left, cdX5_item, F1, hS.1]
  refine S_hasItem hS hz ?_
  refine go_ok okF1 (C := cdX5_item) (by rfl) [] 20 (by exact Nat.le_of_ble_eq_true rfl) ?_
  simp (maxSteps := 2000000) only [go, stp, inS, ↓reduceIte, Bool.false_eq_true, Nat.reduceLT, Nat.reduceEqDiff, Nat.reduceAdd, ldI, ldL, ldA, st1, st2, okS, List.getElem?_cons_zero, List.getElem?_cons_succ, List.length_cons, List.length_nil, List.set_cons_zero, List.set_cons_succ, callP, callF, popN, ct, Value.category, cI, List.getD_cons_zero, List.getD_cons_succ, and_self, and_true, true_and, Nat.zero_le, Nat.reduceLeDiff, Nat.add_zero, Nat.zero_add, List.nil_append, List.cons_append, Option.toList_some, Option.toList_none, List.append_nil, hset_ss, true_or, or_true, eq_self, beq_self_eq_true, List.drop_succ_cons, List.drop_zero, swT, swL, hset_ap, not_true_eq_false, not_false_eq_true, true_implies, false_implies, implies_true, Int32.reduceLE, Int32.reduceLT, Int32.reduceAdd, Int32.reduceSub, Int32.reduceOfInt, Int32.reduceToNatClampNeg, i10, i01, Nat.add_left_cancel_iff, Nat.left_eq_add, Nat.add_eq_left, cdX5_item, F1, hS.1, hS.2, ib0]
  refine ⟨fun c => by rw [if_neg c] at hq; exact hq, fun c => ?_⟩
  have c := Classical.not_not.mp c
  rw [if_pos c] at hq
  refine ⟨?_, hq⟩
  obtain ⟨j, hj, rfl⟩ := i_of (n := sz) (by omega) (i_nlt.mpr c.1) c.2
  exact vp_in_nI (by omega) (by omega)
set_option maxRecDepth 100000 in
set_option maxHeartbeats 400000 in
theorem S_narrowed {v : Int64} (hS : ShAt h t I fm sz) (hq : Q (some (.long (nwF fm v))) n h) : Ok 43 [.ref t, .long v] n h Q := by
  unfold nwF at hq
  refine ok_of kMX5_narrowed kCX5_narrowed (Nat.le_of_ble_eq_true rfl) (fun z => ?_)
  change A z _ _ 0 0 _ 0 [some (.ref t), some (.long v), none] [] _
  refine go_ok okF1 (C := cdX5_narrowed) (by rfl) [] 20 (by exact Nat.le_of_ble_eq_true rfl) ?_
  simp (maxSteps := 2000000) only [go, stp, inS, ↓reduceIte, Bool.false_eq_true, Nat.reduceLT, Nat.reduceEqDiff, Nat.reduceAdd, ldI, ldL, ldA, st1, st2, okS, List.getElem?_cons_zero, List.getElem?_cons_succ, List.length_cons, List.length_nil, List.set_cons_zero, List.set_cons_succ, callP, callF, popN, ct, Value.category, cI, List.getD_cons_zero, List.getD_cons_succ, and_self, and_true, true_and, Nat.zero_le, Nat.reduceLeDiff, Nat.add_zero, Nat.zero_add, List.nil_append, List.cons_append, Option.toList_some, Option.toList_none, List.append_nil, hset_ss, true_or, or_true, eq_self, beq_self_eq_true, List.drop_succ_cons, List.drop_zero, swT, swL, hset_ap, not_true_eq_false, not_false_eq_true, true_implies, false_implies, implies_true, Int32.reduceLE, Int32.reduceLT, Int32.reduceAdd, Int32.reduceSub, Int32.reduceOfInt, Int32.reduceToNatClampNeg, i10, i01, Nat.add_left_cancel_iff, Nat.left_eq_add, Nat.add_eq_left, cdX5_narrowed, F1, hS.1]
  refine ⟨fun c => ?_, fun c => ⟨fun c1 => ?_, fun c1 => ⟨fun c2 => ?_, fun c2 => ?_⟩⟩⟩
  · refine go_ok okF1 (C := cdX5_narrowed) (by rfl) [] 20 (by exact Nat.le_of_ble_eq_true rfl) ?_
    simp (maxSteps := 2000000) only [go, stp, inS, ↓reduceIte, Bool.false_eq_true, Nat.reduceLT, Nat.reduceEqDiff, Nat.reduceAdd, ldI, ldL, ldA, st1, st2, okS, List.getElem?_cons_zero, List.getElem?_cons_succ, List.length_cons, List.length_nil, List.set_cons_zero, List.set_cons_succ, callP, callF, popN, ct, Value.category, cI, List.getD_cons_zero, List.getD_cons_succ, and_self, and_true, true_and, Nat.zero_le, Nat.reduceLeDiff, Nat.add_zero, Nat.zero_add, List.nil_append, List.cons_append, Option.toList_some, Option.toList_none, List.append_nil, hset_ss, true_or, or_true, eq_self, beq_self_eq_true, List.drop_succ_cons, List.drop_zero, swT, swL, hset_ap, not_true_eq_false, not_false_eq_true, true_implies, false_implies, implies_true, Int32.reduceLE, Int32.reduceLT, Int32.reduceAdd, Int32.reduceSub, Int32.reduceOfInt, Int32.reduceToNatClampNeg, i10, i01, Nat.add_left_cancel_iff, Nat.left_eq_add, Nat.add_eq_left, cdX5_narrowed, F1]
    rw [if_pos c] at hq; exact hq
  · refine go_ok okF1 (C := cdX5_narrowed) (by rfl) [] 20 (by exact Nat.le_of_ble_eq_true rfl) ?_
    simp (maxSteps := 2000000) only [go, stp, inS, ↓reduceIte, Bool.false_eq_true, Nat.reduceLT, Nat.reduceEqDiff, Nat.reduceAdd, ldI, ldL, ldA, st1, st2, okS, List.getElem?_cons_zero, List.getElem?_cons_succ, List.length_cons, List.length_nil, List.set_cons_zero, List.set_cons_succ, callP, callF, popN, ct, Value.category, cI, List.getD_cons_zero, List.getD_cons_succ, and_self, and_true, true_and, Nat.zero_le, Nat.reduceLeDiff, Nat.add_zero, Nat.zero_add, List.nil_append, List.cons_append, Option.toList_some, Option.toList_none, List.append_nil, hset_ss, true_or, or_true, eq_self, beq_self_eq_true, List.drop_succ_cons, List.drop_zero, swT, swL, hset_ap, not_true_eq_false, not_false_eq_true, true_implies, false_implies, implies_true, Int32.reduceLE, Int32.reduceLT, Int32.reduceAdd, Int32.reduceSub, Int32.reduceOfInt, Int32.reduceToNatClampNeg, i10, i01, Nat.add_left_cancel_iff, Nat.left_eq_add, Nat.add_eq_left, cdX5_narrowed, F1]
    rw [if_neg c, if_pos c1] at hq; exact hq
  · refine go_ok okF1 (C := cdX5_narrowed) (by rfl) [] 20 (by exact Nat.le_of_ble_eq_true rfl) ?_
    simp (maxSteps := 2000000) only [go, stp, inS, ↓reduceIte, Bool.false_eq_true, Nat.reduceLT, Nat.reduceEqDiff, Nat.reduceAdd, ldI, ldL, ldA, st1, st2, okS, List.getElem?_cons_zero, List.getElem?_cons_succ, List.length_cons, List.length_nil, List.set_cons_zero, List.set_cons_succ, callP, callF, popN, ct, Value.category, cI, List.getD_cons_zero, List.getD_cons_succ, and_self, and_true, true_and, Nat.zero_le, Nat.reduceLeDiff, Nat.add_zero, Nat.zero_add, List.nil_append, List.cons_append, Option.toList_some, Option.toList_none, List.append_nil, hset_ss, true_or, or_true, eq_self, beq_self_eq_true, List.drop_succ_cons, List.drop_zero, swT, swL, hset_ap, not_true_eq_false, not_false_eq_true, true_implies, false_implies, implies_true, Int32.reduceLE, Int32.reduceLT, Int32.reduceAdd, Int32.reduceSub, Int32.reduceOfInt, Int32.reduceToNatClampNeg, i10, i01, Nat.add_left_cancel_iff, Nat.left_eq_add, Nat.add_eq_left, cdX5_narrowed, F1]
    rw [if_neg c, if_neg c1, if_pos c2] at hq; exact hq
  · refine go_ok okF1 (C := cdX5_narrowed) (by rfl) [] 20 (by exact Nat.le_of_ble_eq_true rfl) ?_
    simp (maxSteps := 2000000) only [go, stp, inS, ↓reduceIte, Bool.false_eq_true, Nat.reduceLT, Nat.reduceEqDiff, Nat.reduceAdd, ldI, ldL, ldA, st1, st2, okS, List.getElem?_cons_zero, List.getElem?_cons_succ, List.length_cons, List.length_nil, List.set_cons_zero, List.set_cons_succ, callP, callF, popN, ct, Value.category, cI, List.getD_cons_zero, List.getD_cons_succ, and_self, and_true, true_and, Nat.zero_le, Nat.reduceLeDiff, Nat.add_zero, Nat.zero_add, List.nil_append, List.cons_append, Option.toList_some, Option.toList_none, List.append_nil, hset_ss, true_or, or_true, eq_self, beq_self_eq_true, List.drop_succ_cons, List.drop_zero, swT, swL, hset_ap, not_true_eq_false, not_false_eq_true, true_implies, false_implies, implies_true, Int32.reduceLE, Int32.reduceLT, Int32.reduceAdd, Int32.reduceSub, Int32.reduceOfInt, Int32.reduceToNatClampNeg, i10, i01, Nat.add_left_cancel_iff, Nat.left_eq_add, Nat.add_eq_left, cdX5_narrowed, F1]
    rw [if_neg c, if_neg c1, if_neg c2] at hq; exact hq
set_option maxRecDepth 100000 in
set_option maxHeartbeats 400000 in
theorem S_change {i : Int32} {v : Int64} (hS : ShAt h t I fm sz) (hz : sz ≤ 48) (hq0 : ¬ (0 ≤ i ∧ i < nI sz) → Q none n h) (hq1 : ∀ j, j < sz → i = nI j → ∀ h', ShAt h' t (vp_updL I j (nwF fm v)) fm sz → sOff h h' t (t + 2) → Q none n h') : Ok 42 [.ref t, .int i, .long v] n h Q := by
  refine ok_of kMX5_change kCX5_change (Nat.le_of_ble_eq_true rfl) (fun z => ?_)
  change A z _ _ 0 0 _ 0 [some (.ref t), some (.int i), some (.long v), none] [] _
  refine go_ok okF1 (C := cdX5_change) (by rfl) [] 20 (by exact Nat.le_of_ble_eq_true rfl) ?_
  simp (maxSteps := 2000000) only [go, stp, inS, ↓reduceIte, Bool.false_eq_true, Nat.reduceLT, Nat.reduceEqDiff, Nat.reduceAdd, ldI, ldL, ldA, st1, st2, okS, List.getElem?_cons_zero, List.getElem?_cons_succ, List.length_cons, List.length_nil, List.set_cons_zero, List.set_cons_succ, callP, callF, popN, ct, Value.category, cI, List.getD_cons_zero, List.getD_cons_succ, and_self, and_true, true_and, Nat.zero_le, Nat.reduceLeDiff, Nat.add_zero, Nat.zero_add, List.nil_append, List.cons_append, Option.toList_some, Option.toList_none, List.append_nil, hset_ss, true_or, or_true, eq_self, beq_self_eq_true, List.drop_succ_cons, List.drop_zero, swT, swL, hset_ap, not_true_eq_false, not_false_eq_true, true_implies, false_implies, implies_true, Int32.reduceLE, Int32.reduceLT, Int32.reduceAdd, Int32.reduceSub, Int32.reduceOfInt, Int32.reduceToNatClampNeg, i10, i01, Nat.add_left_cancel_iff, Nat.left_eq_add, Nat.add_eq_left, cdX5_change, F1, hS.1]
  refine S_hasItem hS hz ?_
  refine go_ok okF1 (C := cdX5_change) (by rfl) [] 20 (by exact Nat.le_of_ble_eq_true rfl) ?_
  simp (maxSteps := 2000000) only [go, stp, inS, ↓reduceIte, Bool.false_eq_true, Nat.reduceLT, Nat.reduceEqDiff, Nat.reduceAdd, ldI, ldL, ldA, st1, st2, okS, List.getElem?_cons_zero, List.getElem?_cons_succ, List.length_cons, List.length_nil, List.set_cons_zero, List.set_cons_succ, callP, callF, popN, ct, Value.category, cI, List.getD_cons_zero, List.getD_cons_succ, and_self, and_true, true_and, Nat.zero_le, Nat.reduceLeDiff, Nat.add_zero, Nat.zero_add, List.nil_append, List.cons_append, Option.toList_some, Option.toList_none, List.append_nil, hset_ss, true_or, or_true, eq_self, beq_self_eq_true, List.drop_succ_cons, List.drop_zero, swT, swL, hset_ap, not_true_eq_false, not_false_eq_true, true_implies, false_implies, implies_true, Int32.reduceLE, Int32.reduceLT, Int32.reduceAdd, Int32.reduceSub, Int32.reduceOfInt, Int32.reduceToNatClampNeg, i10, i01, Nat.add_left_cancel_iff, Nat.left_eq_add, Nat.add_eq_left, cdX5_change, F1, hS.1, hS.2, ib0]
  refine ⟨fun c => hq0 c, fun c => ?_⟩
  have c := Classical.not_not.mp c
  obtain ⟨j, hj, rfl⟩ := i_of (n := sz) (by omega) (i_nlt.mpr c.1) c.2
  refine S_narrowed hS ?_
  refine go_ok okF1 (C := cdX5_change) (by rfl) [] 20 (by exact Nat.le_of_ble_eq_true rfl) ?_
  simp (maxSteps := 2000000) only [go, stp, inS, ↓reduceIte, Bool.false_eq_true, Nat.reduceLT, Nat.reduceEqDiff, Nat.reduceAdd, ldI, ldL, ldA, st1, st2, okS, List.getElem?_cons_zero, List.getElem?_cons_succ, List.length_cons, List.length_nil, List.set_cons_zero, List.set_cons_succ, callP, callF, popN, ct, Value.category, cI, List.getD_cons_zero, List.getD_cons_succ, and_self, and_true, true_and, Nat.zero_le, Nat.reduceLeDiff, Nat.add_zero, Nat.zero_add, List.nil_append, List.cons_append, Option.toList_some, Option.toList_none, List.append_nil, hset_ss, true_or, or_true, eq_self, beq_self_eq_true, List.drop_succ_cons, List.drop_zero, swT, swL, hset_ap, not_true_eq_false, not_false_eq_true, true_implies, false_implies, implies_true, Int32.reduceLE, Int32.reduceLT, Int32.reduceAdd, Int32.reduceSub, Int32.reduceOfInt, Int32.reduceToNatClampNeg, i10, i01, Nat.add_left_cancel_iff, Nat.left_eq_add, Nat.add_eq_left, cdX5_change, F1, hS.2, i_cl (show j < 2147483648 by omega)]
  exact ⟨vp_in_nI (by omega) (by omega), hq1 j hj rfl _ ⟨by simp [hset_ap, hS.1], by simp [hset_ap]⟩ (sOff.rf.set (by omega) (by omega))⟩
def zrI (I : Nat → Int64) (q : Nat) : Int64 := if q < 48 then 0 else I q
set_option maxRecDepth 100000 in
set_option maxHeartbeats 400000 in
theorem S_renew {fm' : Int32} {k : Nat} (hS : ShAt h t I fm sz) (hk : k ≤ 48) (hq : ∀ h', ShAt h' t (zrI I) fm' k → sOff h h' t (t + 2) → Q none n h') : Ok 38 [.ref t, .int fm', .int (nI k)] n h Q := by
  have m1 : (if (48 : Int32) < nI k then (48 : Int32) else nI k) = nI k := if_neg (by rw [show (48 : Int32) = nI 48 from rfl, i_lt (by omega) (by omega)]; omega)
  have m2 : (if (0 : Int32) < nI k then nI k else 0) = nI k := by
    by_cases h0 : 0 < nI k
    · rw [if_pos h0]
    · rw [if_neg h0]
      rw [show (0 : Int32) = nI 0 from rfl, i_lt (by omega) (by omega)] at h0
      rw [show k = 0 by omega]; rfl
  refine ok_of kMX5_renew kCX5_renew (Nat.le_of_ble_eq_true rfl) (fun z => ?_)
  change A z _ _ 0 0 _ 0 [some (.ref t), some (.int fm'), some (.int (nI k)), none] [] _
  refine go_ok okF1 (C := cdX5_renew) (by rfl) [21] 30 (by exact Nat.le_of_ble_eq_true rfl) ?_
  simp (maxSteps := 2000000) only [go, stp, inS, ↓reduceIte, Bool.false_eq_true, Nat.reduceLT, Nat.reduceEqDiff, Nat.reduceAdd, ldI, ldL, ldA, st1, st2, okS, List.getElem?_cons_zero, List.getElem?_cons_succ, List.length_cons, List.length_nil, List.set_cons_zero, List.set_cons_succ, callP, callF, popN, ct, Value.category, cI, List.getD_cons_zero, List.getD_cons_succ, and_self, and_true, true_and, Nat.zero_le, Nat.reduceLeDiff, Nat.add_zero, Nat.zero_add, List.nil_append, List.cons_append, Option.toList_some, Option.toList_none, List.append_nil, hset_ss, true_or, or_true, eq_self, beq_self_eq_true, List.drop_succ_cons, List.drop_zero, swT, swL, hset_ap, not_true_eq_false, not_false_eq_true, true_implies, false_implies, implies_true, Int32.reduceLE, Int32.reduceLT, Int32.reduceAdd, Int32.reduceSub, Int32.reduceOfInt, Int32.reduceToNatClampNeg, i10, i01, Nat.add_left_cancel_iff, Nat.left_eq_add, Nat.add_eq_left, cdX5_renew, F1, hS.1, m1, m2]
  have loop : ∀ m i (h' : aH) (J : Nat → Int64), i + m = 48 → ShAt h' t J fm' k → (∀ q, J q = if q < i then 0 else I q) → sOff h h' t (t + 2) → A z 38 n 0 0 h' 21 [some (.ref t), some (.int fm'), some (.int (nI k)), some (.int (nI i))] [] Q := by
    intro m
    induction m with
    | zero =>
      intro i h' J hm hS' hJ hO
      have : i = 48 := by omega
      subst this
      refine go_ok okF1 (C := cdX5_renew) (by rfl) [21] 30 (by exact Nat.le_of_ble_eq_true rfl) ?_
      simp (maxSteps := 2000000) only [go, stp, inS, ↓reduceIte, Bool.false_eq_true, Nat.reduceLT, Nat.reduceEqDiff, Nat.reduceAdd, ldI, ldL, ldA, st1, st2, okS, List.getElem?_cons_zero, List.getElem?_cons_succ, List.length_cons, List.length_nil, List.set_cons_zero, List.set_cons_succ, callP, callF, popN, ct, Value.category, cI, List.getD_cons_zero, List.getD_cons_succ, and_self, and_true, true_and, Nat.zero_le, Nat.reduceLeDiff, Nat.add_zero, Nat.zero_add, List.nil_append, List.cons_append, Option.toList_some, Option.toList_none, List.append_nil, hset_ss, true_or, or_true, eq_self, beq_self_eq_true, List.drop_succ_cons, List.drop_zero, swT, swL, hset_ap, not_true_eq_false, not_false_eq_true, true_implies, false_implies, implies_true, Int32.reduceLE, Int32.reduceLT, Int32.reduceAdd, Int32.reduceSub, Int32.reduceOfInt, Int32.reduceToNatClampNeg, i10, i01, Nat.add_left_cancel_iff, Nat.left_eq_add, Nat.add_eq_left, cdX5_renew, F1, (show (48 : Int32) ≤ nI 48 from by decide)]
      rw [show J = zrI I from funext hJ] at hS'
      exact hq h' hS' hO
    | succ m ih =>
      intro i h' J hm hS' hJ hO
      have hlt : ¬ (48 : Int32) ≤ nI i := by rw [show (48 : Int32) = nI 48 from rfl, i_le (by omega) (by omega)]; omega
      refine go_ok okF1 (C := cdX5_renew) (by rfl) [21] 30 (by exact Nat.le_of_ble_eq_true rfl) ?_
      simp (maxSteps := 2000000) only [go, stp, inS, ↓reduceIte, Bool.false_eq_true, Nat.reduceLT, Nat.reduceEqDiff, Nat.reduceAdd, ldI, ldL, ldA, st1, st2, okS, List.getElem?_cons_zero, List.getElem?_cons_succ, List.length_cons, List.length_nil, List.set_cons_zero, List.set_cons_succ, callP, callF, popN, ct, Value.category, cI, List.getD_cons_zero, List.getD_cons_succ, and_self, and_true, true_and, Nat.zero_le, Nat.reduceLeDiff, Nat.add_zero, Nat.zero_add, List.nil_append, List.cons_append, Option.toList_some, Option.toList_none, List.append_nil, hset_ss, true_or, or_true, eq_self, beq_self_eq_true, List.drop_succ_cons, List.drop_zero, swT, swL, hset_ap, not_true_eq_false, not_false_eq_true, true_implies, false_implies, implies_true, Int32.reduceLE, Int32.reduceLT, Int32.reduceAdd, Int32.reduceSub, Int32.reduceOfInt, Int32.reduceToNatClampNeg, i10, i01, Nat.add_left_cancel_iff, Nat.left_eq_add, Nat.add_eq_left, cdX5_renew, F1, hlt, hS'.1, hS'.2, nI_1, i_cl (show i < 2147483648 by omega)]
      refine ⟨vp_in_nI (by omega) (by omega), ih (i + 1) _ (vp_updL J i 0) (by omega) ⟨by simp [hset_ap, hS'.1], by simp [hset_ap]⟩ (fun q => ?_) (hO.set (by omega) (by omega))⟩
      by_cases hqi : q = i
      · subst hqi; rw [pk_uLs, if_pos (by omega)]
      · rw [pk_uLn hqi, hJ q]
        by_cases c2 : q < i
        · rw [if_pos c2, if_pos (by omega)]
        · rw [if_neg c2, if_neg (by omega)]
  exact loop 48 0 _ I (by omega) ⟨by simp [hset_ap], by simp [hset_ap, hS.2]⟩ (fun q => by rw [if_neg (by omega)]) (fun q hq => by rw [hset_n _ _ (show q ≠ t by omega)])
def tkF (fm : Int32) (It Is : Nat → Int64) (to fr m : Nat) (q : Nat) : Int64 := if to ≤ q ∧ q < to + m then nwF fm (Is (fr + (q - to))) else It q
set_option maxRecDepth 100000 in
set_option maxHeartbeats 400000 in
theorem S_take {s to fr m szs : Nat} {Is : Nat → Int64} {fms : Int32} (hS : ShAt h t I fm sz) (hS2 : ShAt h s Is fms szs) (hsep : (s = t ∧ Is = I) ∨ s + 2 ≤ t ∨ t + 2 ≤ s) (hz : sz ≤ 48) (hzs : szs ≤ 48) (ht : to + m ≤ sz) (hf : fr + m ≤ szs) (hq : ∀ h', ShAt h' t (tkF fm I Is to fr m) fm sz → sOff h h' t (t + 2) → Q none n h') : Ok 44 [.ref t, .int (nI to), .ref s, .int (nI fr), .int (nI m)] n h Q := by
  refine ok_of kMX5_take kCX5_take (Nat.le_of_ble_eq_true rfl) (fun z => ?_)
  change A z _ _ 0 0 _ 0 [some (.ref t), some (.int (nI to)), some (.ref s), some (.int (nI fr)), some (.int (nI m)), none, none] [] _
  refine go_ok okF1 (C := cdX5_take) (by rfl) [3] 30 (by exact Nat.le_of_ble_eq_true rfl) ?_
  simp (maxSteps := 2000000) only [go, stp, inS, ↓reduceIte, Bool.false_eq_true, Nat.reduceLT, Nat.reduceEqDiff, Nat.reduceAdd, ldI, ldL, ldA, st1, st2, okS, List.getElem?_cons_zero, List.getElem?_cons_succ, List.length_cons, List.length_nil, List.set_cons_zero, List.set_cons_succ, callP, callF, popN, ct, Value.category, cI, List.getD_cons_zero, List.getD_cons_succ, and_self, and_true, true_and, Nat.zero_le, Nat.reduceLeDiff, Nat.add_zero, Nat.zero_add, List.nil_append, List.cons_append, Option.toList_some, Option.toList_none, List.append_nil, hset_ss, true_or, or_true, eq_self, beq_self_eq_true, List.drop_succ_cons, List.drop_zero, swT, swL, hset_ap, not_true_eq_false, not_false_eq_true, true_implies, false_implies, implies_true, Int32.reduceLE, Int32.reduceLT, Int32.reduceAdd, Int32.reduceSub, Int32.reduceOfInt, Int32.reduceToNatClampNeg, i10, i01, Nat.add_left_cancel_iff, Nat.left_eq_add, Nat.add_eq_left, cdX5_take, F1]
  have loop : ∀ m' k (h' : aH) (J : Nat → Int64) o6, k + m' = m → ShAt h' t J fm sz → (∀ q, J q = if to ≤ q ∧ q < to + m ∧ (if fr < to then m ≤ (q - to) + k else q - to < k) then nwF fm (Is (fr + (q - to))) else I q) → (s ≠ t → ShAt h' s Is fms szs) → sOff h h' t (t + 2) → A z 44 n 0 0 h' 3 [some (.ref t), some (.int (nI to)), some (.ref s), some (.int (nI fr)), some (.int (nI m)), some (.int (nI k)), o6] [] Q := by
    intro m'
    induction m' with
    | zero =>
      intro k h' J o6 hm hS' hJ hs hO
      have : k = m := by omega
      subst this
      refine go_ok okF1 (C := cdX5_take) (by rfl) [3] 30 (by exact Nat.le_of_ble_eq_true rfl) ?_
      simp (maxSteps := 2000000) only [go, stp, inS, ↓reduceIte, Bool.false_eq_true, Nat.reduceLT, Nat.reduceEqDiff, Nat.reduceAdd, ldI, ldL, ldA, st1, st2, okS, List.getElem?_cons_zero, List.getElem?_cons_succ, List.length_cons, List.length_nil, List.set_cons_zero, List.set_cons_succ, callP, callF, popN, ct, Value.category, cI, List.getD_cons_zero, List.getD_cons_succ, and_self, and_true, true_and, Nat.zero_le, Nat.reduceLeDiff, Nat.add_zero, Nat.zero_add, List.nil_append, List.cons_append, Option.toList_some, Option.toList_none, List.append_nil, hset_ss, true_or, or_true, eq_self, beq_self_eq_true, List.drop_succ_cons, List.drop_zero, swT, swL, hset_ap, not_true_eq_false, not_false_eq_true, true_implies, false_implies, implies_true, Int32.reduceLE, Int32.reduceLT, Int32.reduceAdd, Int32.reduceSub, Int32.reduceOfInt, Int32.reduceToNatClampNeg, i10, i01, Nat.add_left_cancel_iff, Nat.left_eq_add, Nat.add_eq_left, cdX5_take, F1, (show nI k ≤ nI k from (i_le (by omega) (by omega)).mpr (by omega))]
      refine hq h' ?_ hO
      rw [show tkF fm I Is to fr k = J from ?_]; exact hS'
      funext q
      rw [hJ q]; unfold tkF
      by_cases c : to ≤ q ∧ q < to + k
      · rw [if_pos c, if_pos ⟨c.1, c.2, by split <;> omega⟩]
      · rw [if_neg c, if_neg (fun d => c ⟨d.1, d.2.1⟩)]
    | succ m' ih =>
      intro k h' J o6 hm hS' hJ hs hO
      have hlt : ¬ nI m ≤ nI k := by rw [i_le (by omega) (by omega)]; omega
      refine go_ok okF1 (C := cdX5_take) (by rfl) [3, 27] 30 (by exact Nat.le_of_ble_eq_true rfl) ?_
      simp (maxSteps := 2000000) only [go, stp, inS, ↓reduceIte, Bool.false_eq_true, Nat.reduceLT, Nat.reduceEqDiff, Nat.reduceAdd, ldI, ldL, ldA, st1, st2, okS, List.getElem?_cons_zero, List.getElem?_cons_succ, List.length_cons, List.length_nil, List.set_cons_zero, List.set_cons_succ, callP, callF, popN, ct, Value.category, cI, List.getD_cons_zero, List.getD_cons_succ, and_self, and_true, true_and, Nat.zero_le, Nat.reduceLeDiff, Nat.add_zero, Nat.zero_add, List.nil_append, List.cons_append, Option.toList_some, Option.toList_none, List.append_nil, hset_ss, true_or, or_true, eq_self, beq_self_eq_true, List.drop_succ_cons, List.drop_zero, swT, swL, hset_ap, not_true_eq_false, not_false_eq_true, true_implies, false_implies, implies_true, Int32.reduceLE, Int32.reduceLT, Int32.reduceAdd, Int32.reduceSub, Int32.reduceOfInt, Int32.reduceToNatClampNeg, i10, i01, Nat.add_left_cancel_iff, Nat.left_eq_add, Nat.add_eq_left, cdX5_take, F1, hlt]
      have key : ∀ i, i < m → (fr < to → i + k + 1 = m) → (¬ fr < to → i = k) → A z 44 n 0 0 h' 27 [some (.ref t), some (.int (nI to)), some (.ref s), some (.int (nI fr)), some (.int (nI m)), some (.int (nI k)), o6] [.int (nI i)] Q := by
        intro i hi h1 h2
        have hsrc : ∃ Is' szs', ShAt h' s Is' (if s = t then fm else fms) szs' ∧ szs' ≤ 48 ∧ fr + i < szs' ∧ Is' (fr + i) = Is (fr + i) := by
          by_cases hst : s = t
          · subst hst
            rcases hsep with ⟨_, rfl⟩ | hx | hx
            · have e1 := hS.1; rw [hS2.1] at e1
              have e2 : nI szs = nI sz := by injection e1 with e1; injection e1 with e1; simp at e1; exact e1.2
              have e3 : szs = sz := (i_eq (by omega) (by omega)).mp e2
              refine ⟨J, sz, by rw [if_pos rfl]; exact hS', hz, by omega, ?_⟩
              rw [hJ, if_neg]
              rintro ⟨d1, d2, d3⟩
              by_cases hft : fr < to
              · rw [if_pos hft] at d3; have := h1 hft; omega
              · rw [if_neg hft] at d3; have := h2 hft; omega
            · omega
            · omega
          · exact ⟨Is, szs, by rw [if_neg hst]; exact hs hst, hzs, by omega, rfl⟩
        obtain ⟨Is', szs', hS3, hz3, hlt3, he3⟩ := hsrc
        refine go_ok okF1 (C := cdX5_take) (by rfl) [3] 30 (by exact Nat.le_of_ble_eq_true rfl) ?_
        simp (maxSteps := 2000000) only [go, stp, inS, ↓reduceIte, Bool.false_eq_true, Nat.reduceLT, Nat.reduceEqDiff, Nat.reduceAdd, ldI, ldL, ldA, st1, st2, okS, List.getElem?_cons_zero, List.getElem?_cons_succ, List.length_cons, List.length_nil, List.set_cons_zero, List.set_cons_succ, callP, callF, popN, ct, Value.category, cI, List.getD_cons_zero, List.getD_cons_succ, and_self, and_true, true_and, Nat.zero_le, Nat.reduceLeDiff, Nat.add_zero, Nat.zero_add, List.nil_append, List.cons_append, Option.toList_some, Option.toList_none, List.append_nil, hset_ss, true_or, or_true, eq_self, beq_self_eq_true, List.drop_succ_cons, List.drop_zero, swT, swL, hset_ap, not_true_eq_false, not_false_eq_true, true_implies, false_implies, implies_true, Int32.reduceLE, Int32.reduceLT, Int32.reduceAdd, Int32.reduceSub, Int32.reduceOfInt, Int32.reduceToNatClampNeg, i10, i01, Nat.add_left_cancel_iff, Nat.left_eq_add, Nat.add_eq_left, cdX5_take, F1, nI_add fr i, nI_add to i, hS'.1, hS3.1]
        refine S_item hS3 hz3 ?_
        rw [if_pos ⟨(i_le (a := 0) (by omega) (by omega)).mpr (by omega), (i_lt (by omega) (by omega)).mpr hlt3⟩, i_cl (show fr + i < 2147483648 by omega), he3]
        refine go_ok okF1 (C := cdX5_take) (by rfl) [3] 30 (by exact Nat.le_of_ble_eq_true rfl) ?_
        simp (maxSteps := 2000000) only [go, stp, inS, ↓reduceIte, Bool.false_eq_true, Nat.reduceLT, Nat.reduceEqDiff, Nat.reduceAdd, ldI, ldL, ldA, st1, st2, okS, List.getElem?_cons_zero, List.getElem?_cons_succ, List.length_cons, List.length_nil, List.set_cons_zero, List.set_cons_succ, callP, callF, popN, ct, Value.category, cI, List.getD_cons_zero, List.getD_cons_succ, and_self, and_true, true_and, Nat.zero_le, Nat.reduceLeDiff, Nat.add_zero, Nat.zero_add, List.nil_append, List.cons_append, Option.toList_some, Option.toList_none, List.append_nil, hset_ss, true_or, or_true, eq_self, beq_self_eq_true, List.drop_succ_cons, List.drop_zero, swT, swL, hset_ap, not_true_eq_false, not_false_eq_true, true_implies, false_implies, implies_true, Int32.reduceLE, Int32.reduceLT, Int32.reduceAdd, Int32.reduceSub, Int32.reduceOfInt, Int32.reduceToNatClampNeg, i10, i01, Nat.add_left_cancel_iff, Nat.left_eq_add, Nat.add_eq_left, cdX5_take, F1, hS'.1]
        refine S_change hS' hz (fun hc => absurd ⟨(i_le (a := 0) (by omega) (by omega)).mpr (by omega), (i_lt (by omega) (by omega)).mpr (by omega)⟩ hc) (fun j hj hij h2' hS4 hO4 => ?_)
        have hij : to + i = j := (i_eq (by omega) (by omega)).mp hij
        subst hij
        refine go_ok okF1 (C := cdX5_take) (by rfl) [3] 30 (by exact Nat.le_of_ble_eq_true rfl) ?_
        simp (maxSteps := 2000000) only [go, stp, inS, ↓reduceIte, Bool.false_eq_true, Nat.reduceLT, Nat.reduceEqDiff, Nat.reduceAdd, ldI, ldL, ldA, st1, st2, okS, List.getElem?_cons_zero, List.getElem?_cons_succ, List.length_cons, List.length_nil, List.set_cons_zero, List.set_cons_succ, callP, callF, popN, ct, Value.category, cI, List.getD_cons_zero, List.getD_cons_succ, and_self, and_true, true_and, Nat.zero_le, Nat.reduceLeDiff, Nat.add_zero, Nat.zero_add, List.nil_append, List.cons_append, Option.toList_some, Option.toList_none, List.append_nil, hset_ss, true_or, or_true, eq_self, beq_self_eq_true, List.drop_succ_cons, List.drop_zero, swT, swL, hset_ap, not_true_eq_false, not_false_eq_true, true_implies, false_implies, implies_true, Int32.reduceLE, Int32.reduceLT, Int32.reduceAdd, Int32.reduceSub, Int32.reduceOfInt, Int32.reduceToNatClampNeg, i10, i01, Nat.add_left_cancel_iff, Nat.left_eq_add, Nat.add_eq_left, cdX5_take, F1, nI_1]
        refine ih (k + 1) h2' _ _ (by omega) hS4 (fun q => ?_) (fun hst => ?_) (hO.tr hO4)
        · by_cases hqi : q = to + i
          · subst hqi
            rw [pk_uLs, if_pos ⟨by omega, by omega, by split <;> omega⟩, show to + i - to = i by omega]
          · rw [pk_uLn hqi, hJ]
            by_cases c : to ≤ q ∧ q < to + m ∧ (if fr < to then m ≤ (q - to) + k else q - to < k)
            · rw [if_pos c, if_pos ⟨c.1, c.2.1, by have := c.2.2; split at this <;> rename_i hft <;> simp only [hft, if_true, if_false] <;> omega⟩]
            · rw [if_neg c, if_neg]
              rintro ⟨d1, d2, d3⟩
              refine c ⟨d1, d2, ?_⟩
              split at d3 <;> rename_i hft
              · have := h1 hft; rw [if_pos hft]; omega
              · have := h2 hft; rw [if_neg hft]; omega
        · rcases hsep with ⟨hx, _⟩ | hx
          · exact absurd hx hst
          · exact (hs hst).kept (fun q h1 h2 => hO4 q (by omega))
      refine ⟨fun c => ?_, fun c => ?_⟩
      · exact key k (by omega) (fun c' => absurd ((i_le (by omega) (by omega)).mp c) (by omega)) (fun _ => rfl)
      · have hft : fr < to := by have := mt (i_le (a := to) (b := fr) (by omega) (by omega)).mpr c; omega
        rw [show nI m - 1 - nI k = nI (m - 1 - k) from ?_]
        · exact key (m - 1 - k) (by omega) (fun _ => by omega) (fun c' => absurd hft c')
        · rw [show (1 : Int32) = nI 1 from rfl, pk_sub (by omega), pk_sub (by omega)]
  exact loop m 0 h I _ (by omega) hS (fun q => by rw [if_neg]; rintro ⟨d1, d2, d3⟩; split at d3 <;> omega) (fun _ => hS2) sOff.rf
end SH
