
/-! constructors -/
def lo (h h' : aH) (t : Nat) : Prop := ∀ q, q < t → h' q = h q
theorem lo.tr {h h1 h2 : aH} {t u : Nat} (a : lo h h1 t) (b : lo h1 h2 u) (c : t ≤ u) : lo h h2 t := fun q hq => (b q (by omega)).trans (a q hq)
section CT
variable {n : Nat} {h : aH} {Q : aQ} {t : Nat}
set_option maxRecDepth 100000 in
set_option maxHeartbeats 400000 in
theorem N_sides {vs : List Value} (hT : h t = some (.inl (6, vs))) (hq : Q none n h) : Ok 45 [.ref t] n h Q := by
  refine ok_of kMX6_init kCX6_init (Nat.le_of_ble_eq_true rfl) (fun z => ?_)
  change A z _ _ 0 0 _ 0 [some (.ref t)] [] _
  refine go_ok okF1 (C := cdX6_init) (by rfl) [] 30 (by exact Nat.le_of_ble_eq_true rfl) ?_
  simp (maxSteps := 2000000) only [go, stp, inS, ↓reduceIte, Bool.false_eq_true, Nat.reduceLT, Nat.reduceEqDiff, Nat.reduceAdd, ldI, ldL, ldA, st1, st2, okS, List.getElem?_cons_zero, List.getElem?_cons_succ, List.length_cons, List.length_nil, List.set_cons_zero, List.set_cons_succ, callP, callF, popN, ct, Value.category, cI, List.getD_cons_zero, List.getD_cons_succ, and_self, and_true, true_and, Nat.zero_le, Nat.reduceLeDiff, Nat.add_zero, Nat.zero_add, List.nil_append, List.cons_append, Option.toList_some, Option.toList_none, List.append_nil, hset_ss, true_or, or_true, eq_self, beq_self_eq_true, List.drop_succ_cons, List.drop_zero, swT, swL, hset_ap, not_true_eq_false, not_false_eq_true, true_implies, false_implies, implies_true, Int32.reduceLE, Int32.reduceLT, Int32.reduceAdd, Int32.reduceSub, Int32.reduceOfInt, Int32.reduceToNatClampNeg, i10, i01, Nat.add_left_cancel_iff, Nat.left_eq_add, Nat.add_eq_left, cdX6_init, F1, hT]
  exact hq
set_option maxRecDepth 100000 in
set_option maxHeartbeats 400000 in
theorem N_sheet {a b c : Value} (hT : h t = some (.inl (5, [a, b, c]))) (hq : ∀ h', ShAt h' t (fun _ => 0) (-1) 0 → lo h h' t → Q none (t + 2) h') : Ok 36 [.ref t] (t + 1) h Q := by
  refine ok_of kMX5_init kCX5_init (Nat.le_of_ble_eq_true rfl) (fun z => ?_)
  change A z _ _ 0 0 _ 0 [some (.ref t)] [] _
  refine go_ok okF1 (C := cdX5_init) (by rfl) [] 30 (by exact Nat.le_of_ble_eq_true rfl) ?_
  simp (maxSteps := 2000000) only [go, stp, inS, ↓reduceIte, Bool.false_eq_true, Nat.reduceLT, Nat.reduceEqDiff, Nat.reduceAdd, ldI, ldL, ldA, st1, st2, okS, List.getElem?_cons_zero, List.getElem?_cons_succ, List.length_cons, List.length_nil, List.set_cons_zero, List.set_cons_succ, callP, callF, popN, ct, Value.category, cI, List.getD_cons_zero, List.getD_cons_succ, and_self, and_true, true_and, Nat.zero_le, Nat.reduceLeDiff, Nat.add_zero, Nat.zero_add, List.nil_append, List.cons_append, Option.toList_some, Option.toList_none, List.append_nil, hset_ss, true_or, or_true, eq_self, beq_self_eq_true, List.drop_succ_cons, List.drop_zero, swT, swL, hset_ap, not_true_eq_false, not_false_eq_true, true_implies, false_implies, implies_true, Int32.reduceLE, Int32.reduceLT, Int32.reduceAdd, Int32.reduceSub, Int32.reduceOfInt, Int32.reduceToNatClampNeg, i10, i01, Nat.add_left_cancel_iff, Nat.left_eq_add, Nat.add_eq_left, cdX5_init, F1, hT, mcT, msT]
  refine hq _ ⟨?_, ?_⟩ ?_
  · simp [hset_ap]; rfl
  · simp [hset_ap]
  · intro q hq; simp [hset_ap, show q ≠ t by omega, show q ≠ t + 1 by omega]
set_option maxRecDepth 100000 in
set_option maxHeartbeats 400000 in
theorem N_pairs {a b : Value} (hT : h t = some (.inl (4, [a, b]))) (hb : b = .int 0) (hq : ∀ h', PaAt h' t (fun _ => 0) 0 → lo h h' t → Q none (t + 2) h') : Ok 31 [.ref t] (t + 1) h Q := by
  subst hb
  refine ok_of kMX4_init kCX4_init (Nat.le_of_ble_eq_true rfl) (fun z => ?_)
  change A z _ _ 0 0 _ 0 [some (.ref t)] [] _
  refine go_ok okF1 (C := cdX4_init) (by rfl) [] 30 (by exact Nat.le_of_ble_eq_true rfl) ?_
  simp (maxSteps := 2000000) only [go, stp, inS, ↓reduceIte, Bool.false_eq_true, Nat.reduceLT, Nat.reduceEqDiff, Nat.reduceAdd, ldI, ldL, ldA, st1, st2, okS, List.getElem?_cons_zero, List.getElem?_cons_succ, List.length_cons, List.length_nil, List.set_cons_zero, List.set_cons_succ, callP, callF, popN, ct, Value.category, cI, List.getD_cons_zero, List.getD_cons_succ, and_self, and_true, true_and, Nat.zero_le, Nat.reduceLeDiff, Nat.add_zero, Nat.zero_add, List.nil_append, List.cons_append, Option.toList_some, Option.toList_none, List.append_nil, hset_ss, true_or, or_true, eq_self, beq_self_eq_true, List.drop_succ_cons, List.drop_zero, swT, swL, hset_ap, not_true_eq_false, not_false_eq_true, true_implies, false_implies, implies_true, Int32.reduceLE, Int32.reduceLT, Int32.reduceAdd, Int32.reduceSub, Int32.reduceOfInt, Int32.reduceToNatClampNeg, i10, i01, Nat.add_left_cancel_iff, Nat.left_eq_add, Nat.add_eq_left, cdX4_init, F1, hT, mcT, msT]
  refine hq _ ⟨?_, ?_⟩ ?_
  · simp [hset_ap]
  · simp [hset_ap]
  · intro q hq; simp [hset_ap, show q ≠ t by omega, show q ≠ t + 1 by omega]
set_option maxRecDepth 100000 in
set_option maxHeartbeats 400000 in
theorem N_grower {a : Value} (hT : h t = some (.inl (2, [a, .int 0, .int 0]))) (hq : ∀ h', GrAt h' t (fun _ => 0) 0 0 → lo h h' t → Q none (t + 2) h') : Ok 17 [.ref t] (t + 1) h Q := by
  refine ok_of kMX2_init kCX2_init (Nat.le_of_ble_eq_true rfl) (fun z => ?_)
  change A z _ _ 0 0 _ 0 [some (.ref t)] [] _
  refine go_ok okF1 (C := cdX2_init) (by rfl) [] 30 (by exact Nat.le_of_ble_eq_true rfl) ?_
  simp (maxSteps := 2000000) only [go, stp, inS, ↓reduceIte, Bool.false_eq_true, Nat.reduceLT, Nat.reduceEqDiff, Nat.reduceAdd, ldI, ldL, ldA, st1, st2, okS, List.getElem?_cons_zero, List.getElem?_cons_succ, List.length_cons, List.length_nil, List.set_cons_zero, List.set_cons_succ, callP, callF, popN, ct, Value.category, cI, List.getD_cons_zero, List.getD_cons_succ, and_self, and_true, true_and, Nat.zero_le, Nat.reduceLeDiff, Nat.add_zero, Nat.zero_add, List.nil_append, List.cons_append, Option.toList_some, Option.toList_none, List.append_nil, hset_ss, true_or, or_true, eq_self, beq_self_eq_true, List.drop_succ_cons, List.drop_zero, swT, swL, hset_ap, not_true_eq_false, not_false_eq_true, true_implies, false_implies, implies_true, Int32.reduceLE, Int32.reduceLT, Int32.reduceAdd, Int32.reduceSub, Int32.reduceOfInt, Int32.reduceToNatClampNeg, i10, i01, Nat.add_left_cancel_iff, Nat.left_eq_add, Nat.add_eq_left, cdX2_init, F1, hT, mcT, msT]
  refine hq _ ⟨?_, ?_⟩ ?_
  · simp [hset_ap]; rfl
  · simp [hset_ap]
  · intro q hq; simp [hset_ap, show q ≠ t by omega, show q ≠ t + 1 by omega]
set_option maxRecDepth 100000 in
set_option maxHeartbeats 400000 in
theorem N_cutter {a : Value} {lw : Nat} {cl : aC} (hT : h t = some (.inl (0, [a, .int 0, .int 0]))) (hq : ∀ h', CuO h' t lw 0 0 → lo h h' t → Q none (t + 1) h') : Ok 1 [.ref t, .ref lw] (t + 1) h Q := by
  refine ok_of kMX0_init kCX0_init (Nat.le_of_ble_eq_true rfl) (fun z => ?_)
  change A z _ _ 0 0 _ 0 [some (.ref t), some (.ref lw)] [] _
  refine go_ok okF1 (C := cdX0_init) (by rfl) [] 30 (by exact Nat.le_of_ble_eq_true rfl) ?_
  simp (maxSteps := 2000000) only [go, stp, inS, ↓reduceIte, Bool.false_eq_true, Nat.reduceLT, Nat.reduceEqDiff, Nat.reduceAdd, ldI, ldL, ldA, st1, st2, okS, List.getElem?_cons_zero, List.getElem?_cons_succ, List.length_cons, List.length_nil, List.set_cons_zero, List.set_cons_succ, callP, callF, popN, ct, Value.category, cI, List.getD_cons_zero, List.getD_cons_succ, and_self, and_true, true_and, Nat.zero_le, Nat.reduceLeDiff, Nat.add_zero, Nat.zero_add, List.nil_append, List.cons_append, Option.toList_some, Option.toList_none, List.append_nil, hset_ss, true_or, or_true, eq_self, beq_self_eq_true, List.drop_succ_cons, List.drop_zero, swT, swL, hset_ap, not_true_eq_false, not_false_eq_true, true_implies, false_implies, implies_true, Int32.reduceLE, Int32.reduceLT, Int32.reduceAdd, Int32.reduceSub, Int32.reduceOfInt, Int32.reduceToNatClampNeg, i10, i01, Nat.add_left_cancel_iff, Nat.left_eq_add, Nat.add_eq_left, cdX0_init, F1, hT]
  refine hq _ ?_ ?_
  · exact hset_s _ _ _
  · intro q hq; exact hset_n _ _ (by omega)
set_option maxRecDepth 100000 in
set_option maxHeartbeats 400000 in
theorem N_laws {a b : Value} {en tb : Nat} (hT : h t = some (.inl (3, [a, b]))) (hq : ∀ h', LwO h' t en tb → lo h h' t → Q none (t + 1) h') : Ok 24 [.ref t, .ref en, .ref tb] (t + 1) h Q := by
  refine ok_of kMX3_init kCX3_init (Nat.le_of_ble_eq_true rfl) (fun z => ?_)
  change A z _ _ 0 0 _ 0 [some (.ref t), some (.ref en), some (.ref tb)] [] _
  refine go_ok okF1 (C := cdX3_init) (by rfl) [] 30 (by exact Nat.le_of_ble_eq_true rfl) ?_
  simp (maxSteps := 2000000) only [go, stp, inS, ↓reduceIte, Bool.false_eq_true, Nat.reduceLT, Nat.reduceEqDiff, Nat.reduceAdd, ldI, ldL, ldA, st1, st2, okS, List.getElem?_cons_zero, List.getElem?_cons_succ, List.length_cons, List.length_nil, List.set_cons_zero, List.set_cons_succ, callP, callF, popN, ct, Value.category, cI, List.getD_cons_zero, List.getD_cons_succ, and_self, and_true, true_and, Nat.zero_le, Nat.reduceLeDiff, Nat.add_zero, Nat.zero_add, List.nil_append, List.cons_append, Option.toList_some, Option.toList_none, List.append_nil, hset_ss, true_or, or_true, eq_self, beq_self_eq_true, List.drop_succ_cons, List.drop_zero, swT, swL, hset_ap, not_true_eq_false, not_false_eq_true, true_implies, false_implies, implies_true, Int32.reduceLE, Int32.reduceLT, Int32.reduceAdd, Int32.reduceSub, Int32.reduceOfInt, Int32.reduceToNatClampNeg, i10, i01, Nat.add_left_cancel_iff, Nat.left_eq_add, Nat.add_eq_left, cdX3_init, F1, hT]
  refine hq _ ?_ ?_
  · exact hset_s _ _ _
  · intro q hq; simp [hset_ap, show q ≠ t by omega]
set_option maxRecDepth 100000 in
set_option maxHeartbeats 400000 in
theorem N_engine {a b c : Value} {tb : Nat} (hT : h t = some (.inl (1, [a, b, c, .int 0, .int 0, .int 0]))) (hq : ∀ h', EnAt h' t tb 0 0 0 (fun _ => 0) → lo h h' t → Q none (t + 3) h') : Ok 5 [.ref t, .ref tb] (t + 1) h Q := by
  refine ok_of kMX1_init kCX1_init (Nat.le_of_ble_eq_true rfl) (fun z => ?_)
  change A z _ _ 0 0 _ 0 [some (.ref t), some (.ref tb)] [] _
  refine go_ok okF1 (C := cdX1_init) (by rfl) [] 30 (by exact Nat.le_of_ble_eq_true rfl) ?_
  simp (maxSteps := 2000000) only [go, stp, inS, ↓reduceIte, Bool.false_eq_true, Nat.reduceLT, Nat.reduceEqDiff, Nat.reduceAdd, ldI, ldL, ldA, st1, st2, okS, List.getElem?_cons_zero, List.getElem?_cons_succ, List.length_cons, List.length_nil, List.set_cons_zero, List.set_cons_succ, callP, callF, popN, ct, Value.category, cI, List.getD_cons_zero, List.getD_cons_succ, and_self, and_true, true_and, Nat.zero_le, Nat.reduceLeDiff, Nat.add_zero, Nat.zero_add, List.nil_append, List.cons_append, Option.toList_some, Option.toList_none, List.append_nil, hset_ss, true_or, or_true, eq_self, beq_self_eq_true, List.drop_succ_cons, List.drop_zero, swT, swL, hset_ap, not_true_eq_false, not_false_eq_true, true_implies, false_implies, implies_true, Int32.reduceLE, Int32.reduceLT, Int32.reduceAdd, Int32.reduceSub, Int32.reduceOfInt, Int32.reduceToNatClampNeg, i10, i01, Nat.add_left_cancel_iff, Nat.left_eq_add, Nat.add_eq_left, cdX1_init, F1, hT, mcT, msT, Nat.add_assoc]
  refine N_sides (hset_s _ _ _) ?_
  refine go_ok okF1 (C := cdX1_init) (by rfl) [] 30 (by exact Nat.le_of_ble_eq_true rfl) ?_
  simp (maxSteps := 2000000) only [go, stp, inS, ↓reduceIte, Bool.false_eq_true, Nat.reduceLT, Nat.reduceEqDiff, Nat.reduceAdd, ldI, ldL, ldA, st1, st2, okS, List.getElem?_cons_zero, List.getElem?_cons_succ, List.length_cons, List.length_nil, List.set_cons_zero, List.set_cons_succ, callP, callF, popN, ct, Value.category, cI, List.getD_cons_zero, List.getD_cons_succ, and_self, and_true, true_and, Nat.zero_le, Nat.reduceLeDiff, Nat.add_zero, Nat.zero_add, List.nil_append, List.cons_append, Option.toList_some, Option.toList_none, List.append_nil, hset_ss, true_or, or_true, eq_self, beq_self_eq_true, List.drop_succ_cons, List.drop_zero, swT, swL, hset_ap, not_true_eq_false, not_false_eq_true, true_implies, false_implies, implies_true, Int32.reduceLE, Int32.reduceLT, Int32.reduceAdd, Int32.reduceSub, Int32.reduceOfInt, Int32.reduceToNatClampNeg, i10, i01, Nat.add_left_cancel_iff, Nat.left_eq_add, Nat.add_eq_left, cdX1_init, F1, hT, mcT, msT, Nat.add_assoc]
  refine hq _ ⟨?_, ⟨0, 0, 0, 0, 0, ?_⟩, ?_⟩ ?_
  · unfold EnO; simp [hset_ap]
  · unfold SdAt; simp [hset_ap]; rfl
  · simp [hset_ap]
  · intro q hq; simp [hset_ap, show q ≠ t by omega, show q ≠ t + 1 by omega, show q ≠ t + 2 by omega]
set_option maxRecDepth 100000 in
set_option maxHeartbeats 400000 in
theorem N_table {a b c d : Value} {m : Nat} (hm : m ≤ 12) (hT : h t = some (.inl (8, [a, b, c, d]))) (hq : ∀ h', TbAt h' t m (fun _ => 0) (fun _ => 0) 0 → lo h h' t → Q none (t + 3) h') : Ok 54 [.ref t, .int (nI m)] (t + 1) h Q := by
  have e0 : (if nI m < 0 then (0 : Int32) else nI m) = nI m := if_neg (i_nn (by omega))
  have e1 : nI m * 3 = nI (m * 3) := pk_mul m 3
  refine ok_of kMX8_init kCX8_init (Nat.le_of_ble_eq_true rfl) (fun z => ?_)
  change A z _ _ 0 0 _ 0 [some (.ref t), some (.int (nI m))] [] _
  refine go_ok okF1 (C := cdX8_init) (by rfl) [] 30 (by exact Nat.le_of_ble_eq_true rfl) ?_
  simp (maxSteps := 2000000) only [go, stp, inS, ↓reduceIte, Bool.false_eq_true, Nat.reduceLT, Nat.reduceEqDiff, Nat.reduceAdd, ldI, ldL, ldA, st1, st2, okS, List.getElem?_cons_zero, List.getElem?_cons_succ, List.length_cons, List.length_nil, List.set_cons_zero, List.set_cons_succ, callP, callF, popN, ct, Value.category, cI, List.getD_cons_zero, List.getD_cons_succ, and_self, and_true, true_and, Nat.zero_le, Nat.reduceLeDiff, Nat.add_zero, Nat.zero_add, List.nil_append, List.cons_append, Option.toList_some, Option.toList_none, List.append_nil, hset_ss, true_or, or_true, eq_self, beq_self_eq_true, List.drop_succ_cons, List.drop_zero, swT, swL, hset_ap, not_true_eq_false, not_false_eq_true, true_implies, false_implies, implies_true, Int32.reduceLE, Int32.reduceLT, Int32.reduceAdd, Int32.reduceSub, Int32.reduceOfInt, Int32.reduceToNatClampNeg, i10, i01, Nat.add_left_cancel_iff, Nat.left_eq_add, Nat.add_eq_left, cdX8_init, F1, hT, mcT, msT, e0, e1, i_cl (show m < 2147483648 by omega), i_cl (show m * 3 < 2147483648 by omega), Nat.add_assoc]
  refine ⟨i_nn (by omega), by omega, by omega, i_nn (by omega), by omega, by omega, by omega, ?_⟩
  refine hq _ ⟨?_, ?_, ?_⟩ ?_
  · simp [hset_ap]; rfl
  · simp [hset_ap]
  · simp [hset_ap]
  · intro q hq; simp [hset_ap, show q ≠ t by omega, show q ≠ t + 1 by omega, show q ≠ t + 2 by omega]
set_option maxRecDepth 100000 in
set_option maxHeartbeats 400000 in
theorem N_text (hT : h t = some (.inl (9, [.null, .null, .null, .null, .null, .int 0, .int 0, .int 0, .int 0, .int 0, .int 0]))) (hq : ∀ h', TxAt h' t (fun _ => 0) (fun _ => 0) (fun _ => 0) (fun _ => 0) (fun _ => 0) 0 0 1 0 0 (-1) → lo h h' t → Q none (t + 6) h') : Ok 67 [.ref t] (t + 1) h Q := by
  refine ok_of kMX9_init kCX9_init (Nat.le_of_ble_eq_true rfl) (fun z => ?_)
  change A z _ _ 0 0 _ 0 [some (.ref t)] [] _
  refine go_ok okF1 (C := cdX9_init) (by rfl) [] 30 (by exact Nat.le_of_ble_eq_true rfl) ?_
  simp (maxSteps := 2000000) only [go, stp, inS, ↓reduceIte, Bool.false_eq_true, Nat.reduceLT, Nat.reduceEqDiff, Nat.reduceAdd, ldI, ldL, ldA, st1, st2, okS, List.getElem?_cons_zero, List.getElem?_cons_succ, List.length_cons, List.length_nil, List.set_cons_zero, List.set_cons_succ, callP, callF, popN, ct, Value.category, cI, List.getD_cons_zero, List.getD_cons_succ, and_self, and_true, true_and, Nat.zero_le, Nat.reduceLeDiff, Nat.add_zero, Nat.zero_add, List.nil_append, List.cons_append, Option.toList_some, Option.toList_none, List.append_nil, hset_ss, true_or, or_true, eq_self, beq_self_eq_true, List.drop_succ_cons, List.drop_zero, swT, swL, hset_ap, not_true_eq_false, not_false_eq_true, true_implies, false_implies, implies_true, Int32.reduceLE, Int32.reduceLT, Int32.reduceAdd, Int32.reduceSub, Int32.reduceOfInt, Int32.reduceToNatClampNeg, i10, i01, Nat.add_left_cancel_iff, Nat.left_eq_add, Nat.add_eq_left, cdX9_init, F1, hT, mcT, msT, Nat.add_assoc]
  refine X_clear (B := fun _ => 0) (G := fun _ => 0) (S := fun _ => 0) (L := fun _ => 0) (R := fun _ => 0) (len := 0) (ac := 0) (ot := 0) (om := 0) (mi := 0) (sk := 0) ⟨?_, ?_, ?_, ?_, ?_, ?_⟩ (fun h' hT' hO => ?_)
  · simp [hset_ap]
  · simp [hset_ap]
  · simp [hset_ap]
  · simp [hset_ap]
  · simp [hset_ap]
  · simp [hset_ap]
  · refine go_ok okF1 (C := cdX9_init) (by rfl) [] 30 (by exact Nat.le_of_ble_eq_true rfl) ?_
    simp (maxSteps := 2000000) only [go, stp, inS, ↓reduceIte, Bool.false_eq_true, Nat.reduceLT, Nat.reduceEqDiff, Nat.reduceAdd, ldI, ldL, ldA, st1, st2, okS, List.getElem?_cons_zero, List.getElem?_cons_succ, List.length_cons, List.length_nil, List.set_cons_zero, List.set_cons_succ, callP, callF, popN, ct, Value.category, cI, List.getD_cons_zero, List.getD_cons_succ, and_self, and_true, true_and, Nat.zero_le, Nat.reduceLeDiff, Nat.add_zero, Nat.zero_add, List.nil_append, List.cons_append, Option.toList_some, Option.toList_none, List.append_nil, hset_ss, true_or, or_true, eq_self, beq_self_eq_true, List.drop_succ_cons, List.drop_zero, swT, swL, hset_ap, not_true_eq_false, not_false_eq_true, true_implies, false_implies, implies_true, Int32.reduceLE, Int32.reduceLT, Int32.reduceAdd, Int32.reduceSub, Int32.reduceOfInt, Int32.reduceToNatClampNeg, i10, i01, Nat.add_left_cancel_iff, Nat.left_eq_add, Nat.add_eq_left, cdX9_init, F1, mcT, msT]
    refine hq _ hT' ?_
    intro q hq
    rw [hO q (by omega)]
    simp [hset_ap, show q ≠ t by omega, show q ≠ t + 1 by omega, show q ≠ t + 2 by omega, show q ≠ t + 3 by omega, show q ≠ t + 4 by omega, show q ≠ t + 5 by omega]
end CT
