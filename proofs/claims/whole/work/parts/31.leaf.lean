/-! long compares -/
theorem l_tri (x y : Int64) : y < x ∨ x = y ∨ x < y := by rw [Int64.lt_iff_toInt_lt, Int64.lt_iff_toInt_lt, ← Int64.toInt_inj]; omega
theorem lc_g {x y : Int64} (e : y < x) : lg_cmp x y = 1 := if_pos e
theorem lc_e (x : Int64) : lg_cmp x x = 0 := by unfold lg_cmp; rw [if_neg (fun q : x > x => lg_lt_not q q), if_pos rfl]
theorem lc_l {x y : Int64} (e : x < y) : lg_cmp x y = -1 := by unfold lg_cmp; rw [if_neg (fun q : x > y => lg_lt_not e q), if_neg (fun q => by subst q; exact lg_lt_not e e)]
theorem lc_lt (x y : Int64) : (lg_cmp x y < 0) ↔ x < y := by
  rcases l_tri x y with e | e | e
  · rw [lc_g e]; exact ⟨fun q => absurd q (by decide), fun q => absurd e (lg_lt_not q)⟩
  · subst e; rw [lc_e]; exact ⟨fun q => absurd q (by decide), fun q => absurd q (lg_lt_not q)⟩
  · rw [lc_l e]; exact ⟨fun _ => e, fun _ => by decide⟩
theorem lc_gt (x y : Int64) : (0 < lg_cmp x y) ↔ y < x := by
  rcases l_tri x y with e | e | e
  · rw [lc_g e]; exact ⟨fun _ => e, fun _ => by decide⟩
  · subst e; rw [lc_e]; exact ⟨fun q => absurd q (by decide), fun q => absurd q (lg_lt_not q)⟩
  · rw [lc_l e]; exact ⟨fun q => absurd q (by decide), fun q => absurd e (lg_lt_not q)⟩
theorem lc_eq (x y : Int64) : (lg_cmp x y = 0) ↔ x = y := by
  rcases l_tri x y with e | e | e
  · rw [lc_g e]; exact ⟨fun q => absurd q (by decide), fun q => by subst q; exact absurd e (lg_lt_not e)⟩
  · subst e; rw [lc_e]; exact ⟨fun _ => rfl, fun _ => rfl⟩
  · rw [lc_l e]; exact ⟨fun q => absurd q (by decide), fun q => by subst q; exact absurd e (lg_lt_not e)⟩
theorem l_nlt {x y : Int64} : ¬ x < y ↔ y ≤ x := by
  rw [Int64.le_iff_toInt_le, Int64.lt_iff_toInt_lt]; omega
theorem l_nle {x y : Int64} : ¬ x ≤ y ↔ y < x := by
  rw [Int64.le_iff_toInt_le, Int64.lt_iff_toInt_lt]; omega
-- truth as a number
theorem ib0 {P : Prop} [Decidable P] : ((if P then (1 : Int32) else 0) = 0) = ¬ P := by by_cases h : P <;> simp [h]
theorem ib1 {P : Prop} [Decidable P] : ((if P then (1 : Int32) else 0) = 1) = P := by by_cases h : P <;> simp [h]
theorem ib01 {P : Prop} [Decidable P] : ((if P then (1 : Int32) else 0) = 0 ∨ (if P then (1 : Int32) else 0) = 1) = True := by by_cases h : P <;> simp [h]
theorem il_le (x : Int32) (y : Int32) : (x.toInt64 ≤ y.toInt64) = (x ≤ y) := by
  rw [Int64.le_iff_toInt_le, Int32.le_iff_toInt_le, Int32.toInt_toInt64, Int32.toInt_toInt64]
theorem il_eq (x : Int32) (y : Int32) : (x.toInt64 = y.toInt64) = (x = y) := by
  rw [← Int64.toInt_inj, ← Int32.toInt_inj, Int32.toInt_toInt64, Int32.toInt_toInt64]
theorem il_0 (x : Int32) : ((0 : Int64) ≤ x.toInt64) = (0 ≤ x) := il_le 0 x
theorem il_1 (x : Int32) : ((1 : Int64) ≤ x.toInt64) = (1 ≤ x) := il_le 1 x

set_option maxRecDepth 100000 in
set_option maxHeartbeats 400000 in
theorem LX10_yesOf {n : Nat} {h : aH} {Q : aQ} {v : Int32} (hq : Q (some (.int (v &&& 65535))) n h) : Ok 143 [.int v] n h Q := by
  refine ok_of kMX10_yesOf kCX10_yesOf (Nat.le_of_ble_eq_true rfl) (fun z => ?_)
  change A z _ _ 0 0 _ 0 [some (.int v)] [] _
  refine go_ok okF0 (C := cdX10_yesOf) (by rfl) [] 40 (by exact Nat.le_of_ble_eq_true rfl) ?_
  simp (maxSteps := 2000000) only [go, stp, inS, ↓reduceIte, Bool.false_eq_true, Nat.reduceLT, Nat.reduceEqDiff, Nat.reduceAdd, ldI, ldL, ldA, st1, st2, okS, List.getElem?_cons_zero, List.getElem?_cons_succ, List.length_cons, List.length_nil, List.set_cons_zero, List.set_cons_succ, callP, callF, popN, ct, Value.category, cI, List.getD_cons_zero, List.getD_cons_succ, and_self, and_true, true_and, Nat.zero_le, Nat.reduceLeDiff, Nat.add_zero, Nat.zero_add, List.nil_append, List.cons_append, Option.toList_some, Option.toList_none, List.append_nil, hset_ss, true_or, or_true, eq_self, beq_self_eq_true, List.drop_succ_cons, List.drop_zero, swT, swL, hset_ap, not_true_eq_false, not_false_eq_true, true_implies, false_implies, implies_true, Int32.reduceLE, Int32.reduceLT, Int32.reduceAdd, Int32.reduceSub, Int32.reduceOfInt, Int32.reduceToNatClampNeg, i10, i01, Nat.add_left_cancel_iff, Nat.left_eq_add, Nat.add_eq_left, cdX10_yesOf, lc_lt, lc_gt, lc_eq, i_nlt, i_nle, l_nlt, l_nle]
  exact hq
set_option maxRecDepth 100000 in
set_option maxHeartbeats 400000 in
theorem LX10_nothingOf {n : Nat} {h : aH} {Q : aQ} {v : Int32} (hq : Q (some (.int ((v.toUInt32 >>> ((16 : Int32).toUInt32 &&& Int32.toUInt32 31)).toInt32))) n h) : Ok 144 [.int v] n h Q := by
  refine ok_of kMX10_nothingOf kCX10_nothingOf (Nat.le_of_ble_eq_true rfl) (fun z => ?_)
  change A z _ _ 0 0 _ 0 [some (.int v)] [] _
  refine go_ok okF0 (C := cdX10_nothingOf) (by rfl) [] 40 (by exact Nat.le_of_ble_eq_true rfl) ?_
  simp (maxSteps := 2000000) only [go, stp, inS, ↓reduceIte, Bool.false_eq_true, Nat.reduceLT, Nat.reduceEqDiff, Nat.reduceAdd, ldI, ldL, ldA, st1, st2, okS, List.getElem?_cons_zero, List.getElem?_cons_succ, List.length_cons, List.length_nil, List.set_cons_zero, List.set_cons_succ, callP, callF, popN, ct, Value.category, cI, List.getD_cons_zero, List.getD_cons_succ, and_self, and_true, true_and, Nat.zero_le, Nat.reduceLeDiff, Nat.add_zero, Nat.zero_add, List.nil_append, List.cons_append, Option.toList_some, Option.toList_none, List.append_nil, hset_ss, true_or, or_true, eq_self, beq_self_eq_true, List.drop_succ_cons, List.drop_zero, swT, swL, hset_ap, not_true_eq_false, not_false_eq_true, true_implies, false_implies, implies_true, Int32.reduceLE, Int32.reduceLT, Int32.reduceAdd, Int32.reduceSub, Int32.reduceOfInt, Int32.reduceToNatClampNeg, i10, i01, Nat.add_left_cancel_iff, Nat.left_eq_add, Nat.add_eq_left, cdX10_nothingOf, lc_lt, lc_gt, lc_eq, i_nlt, i_nle, l_nlt, l_nle]
  exact hq
set_option maxRecDepth 100000 in
set_option maxHeartbeats 400000 in
theorem LX10_verdict {n : Nat} {h : aH} {Q : aQ} {v : Int32} {w : Int32} (hq : Q (some (.int (v ||| (w <<< ((16 : Int32) &&& 31))))) n h) : Ok 142 [.int v, .int w] n h Q := by
  refine ok_of kMX10_verdict kCX10_verdict (Nat.le_of_ble_eq_true rfl) (fun z => ?_)
  change A z _ _ 0 0 _ 0 [some (.int v), some (.int w)] [] _
  refine go_ok okF0 (C := cdX10_verdict) (by rfl) [] 40 (by exact Nat.le_of_ble_eq_true rfl) ?_
  simp (maxSteps := 2000000) only [go, stp, inS, ↓reduceIte, Bool.false_eq_true, Nat.reduceLT, Nat.reduceEqDiff, Nat.reduceAdd, ldI, ldL, ldA, st1, st2, okS, List.getElem?_cons_zero, List.getElem?_cons_succ, List.length_cons, List.length_nil, List.set_cons_zero, List.set_cons_succ, callP, callF, popN, ct, Value.category, cI, List.getD_cons_zero, List.getD_cons_succ, and_self, and_true, true_and, Nat.zero_le, Nat.reduceLeDiff, Nat.add_zero, Nat.zero_add, List.nil_append, List.cons_append, Option.toList_some, Option.toList_none, List.append_nil, hset_ss, true_or, or_true, eq_self, beq_self_eq_true, List.drop_succ_cons, List.drop_zero, swT, swL, hset_ap, not_true_eq_false, not_false_eq_true, true_implies, false_implies, implies_true, Int32.reduceLE, Int32.reduceLT, Int32.reduceAdd, Int32.reduceSub, Int32.reduceOfInt, Int32.reduceToNatClampNeg, i10, i01, Nat.add_left_cancel_iff, Nat.left_eq_add, Nat.add_eq_left, cdX10_verdict, lc_lt, lc_gt, lc_eq, i_nlt, i_nle, l_nlt, l_nle]
  exact hq
set_option maxRecDepth 100000 in
set_option maxHeartbeats 400000 in
theorem LX10_isColumn {n : Nat} {h : aH} {Q : aQ} {v : Int32} (hq : Q (some (.int (if 20 ≤ v ∧ v < 23 then 1 else 0))) n h) : Ok 132 [.int v] n h Q := by
  refine ok_of kMX10_isColumn kCX10_isColumn (Nat.le_of_ble_eq_true rfl) (fun z => ?_)
  change A z _ _ 0 0 _ 0 [some (.int v)] [] _
  refine go_ok okF0 (C := cdX10_isColumn) (by rfl) [] 40 (by exact Nat.le_of_ble_eq_true rfl) ?_
  simp (maxSteps := 2000000) only [go, stp, inS, ↓reduceIte, Bool.false_eq_true, Nat.reduceLT, Nat.reduceEqDiff, Nat.reduceAdd, ldI, ldL, ldA, st1, st2, okS, List.getElem?_cons_zero, List.getElem?_cons_succ, List.length_cons, List.length_nil, List.set_cons_zero, List.set_cons_succ, callP, callF, popN, ct, Value.category, cI, List.getD_cons_zero, List.getD_cons_succ, and_self, and_true, true_and, Nat.zero_le, Nat.reduceLeDiff, Nat.add_zero, Nat.zero_add, List.nil_append, List.cons_append, Option.toList_some, Option.toList_none, List.append_nil, hset_ss, true_or, or_true, eq_self, beq_self_eq_true, List.drop_succ_cons, List.drop_zero, swT, swL, hset_ap, not_true_eq_false, not_false_eq_true, true_implies, false_implies, implies_true, Int32.reduceLE, Int32.reduceLT, Int32.reduceAdd, Int32.reduceSub, Int32.reduceOfInt, Int32.reduceToNatClampNeg, i10, i01, Nat.add_left_cancel_iff, Nat.left_eq_add, Nat.add_eq_left, cdX10_isColumn, lc_lt, lc_gt, lc_eq, i_nlt, i_nle, l_nlt, l_nle]
  by_cases hP : 20 ≤ v ∧ v < 23
  · rw [if_pos hP] at hq
    (repeat' (first | apply And.intro | intro _)) <;> first | exact hq | (exfalso; simp only [Int32.lt_iff_toInt_lt, Int32.le_iff_toInt_le, ← Int32.toInt_inj, Int64.lt_iff_toInt_lt, Int64.le_iff_toInt_le, ← Int64.toInt_inj, Int32.reduceToInt, Int64.reduceToInt] at *; omega)
  · rw [if_neg hP] at hq
    (repeat' (first | apply And.intro | intro _)) <;> first | exact hq | (exfalso; simp only [Int32.lt_iff_toInt_lt, Int32.le_iff_toInt_le, ← Int32.toInt_inj, Int64.lt_iff_toInt_lt, Int64.le_iff_toInt_le, ← Int64.toInt_inj, Int32.reduceToInt, Int64.reduceToInt] at *; omega)
set_option maxRecDepth 100000 in
set_option maxHeartbeats 400000 in
theorem LX10_isTold {n : Nat} {h : aH} {Q : aQ} {v : Int32} (hq : Q (some (.int (if -9 ≤ v ∧ v ≤ 9 then 1 else 0))) n h) : Ok 133 [.int v] n h Q := by
  refine ok_of kMX10_isTold kCX10_isTold (Nat.le_of_ble_eq_true rfl) (fun z => ?_)
  change A z _ _ 0 0 _ 0 [some (.int v)] [] _
  refine go_ok okF0 (C := cdX10_isTold) (by rfl) [] 40 (by exact Nat.le_of_ble_eq_true rfl) ?_
  simp (maxSteps := 2000000) only [go, stp, inS, ↓reduceIte, Bool.false_eq_true, Nat.reduceLT, Nat.reduceEqDiff, Nat.reduceAdd, ldI, ldL, ldA, st1, st2, okS, List.getElem?_cons_zero, List.getElem?_cons_succ, List.length_cons, List.length_nil, List.set_cons_zero, List.set_cons_succ, callP, callF, popN, ct, Value.category, cI, List.getD_cons_zero, List.getD_cons_succ, and_self, and_true, true_and, Nat.zero_le, Nat.reduceLeDiff, Nat.add_zero, Nat.zero_add, List.nil_append, List.cons_append, Option.toList_some, Option.toList_none, List.append_nil, hset_ss, true_or, or_true, eq_self, beq_self_eq_true, List.drop_succ_cons, List.drop_zero, swT, swL, hset_ap, not_true_eq_false, not_false_eq_true, true_implies, false_implies, implies_true, Int32.reduceLE, Int32.reduceLT, Int32.reduceAdd, Int32.reduceSub, Int32.reduceOfInt, Int32.reduceToNatClampNeg, i10, i01, Nat.add_left_cancel_iff, Nat.left_eq_add, Nat.add_eq_left, cdX10_isTold, lc_lt, lc_gt, lc_eq, i_nlt, i_nle, l_nlt, l_nle]
  by_cases hP : -9 ≤ v ∧ v ≤ 9
  · rw [if_pos hP] at hq
    (repeat' (first | apply And.intro | intro _)) <;> first | exact hq | (exfalso; simp only [Int32.lt_iff_toInt_lt, Int32.le_iff_toInt_le, ← Int32.toInt_inj, Int64.lt_iff_toInt_lt, Int64.le_iff_toInt_le, ← Int64.toInt_inj, Int32.reduceToInt, Int64.reduceToInt] at *; omega)
  · rw [if_neg hP] at hq
    (repeat' (first | apply And.intro | intro _)) <;> first | exact hq | (exfalso; simp only [Int32.lt_iff_toInt_lt, Int32.le_iff_toInt_le, ← Int32.toInt_inj, Int64.lt_iff_toInt_lt, Int64.le_iff_toInt_le, ← Int64.toInt_inj, Int32.reduceToInt, Int64.reduceToInt] at *; omega)
set_option maxRecDepth 100000 in
set_option maxHeartbeats 400000 in
theorem LX10_isLaw {n : Nat} {h : aH} {Q : aQ} {v : Int32} (hq : Q (some (.int (if 0 ≤ v ∧ v < 7 then 1 else 0))) n h) : Ok 128 [.int v] n h Q := by
  refine ok_of kMX10_isLaw kCX10_isLaw (Nat.le_of_ble_eq_true rfl) (fun z => ?_)
  change A z _ _ 0 0 _ 0 [some (.int v)] [] _
  refine go_ok okF0 (C := cdX10_isLaw) (by rfl) [] 40 (by exact Nat.le_of_ble_eq_true rfl) ?_
  simp (maxSteps := 2000000) only [go, stp, inS, ↓reduceIte, Bool.false_eq_true, Nat.reduceLT, Nat.reduceEqDiff, Nat.reduceAdd, ldI, ldL, ldA, st1, st2, okS, List.getElem?_cons_zero, List.getElem?_cons_succ, List.length_cons, List.length_nil, List.set_cons_zero, List.set_cons_succ, callP, callF, popN, ct, Value.category, cI, List.getD_cons_zero, List.getD_cons_succ, and_self, and_true, true_and, Nat.zero_le, Nat.reduceLeDiff, Nat.add_zero, Nat.zero_add, List.nil_append, List.cons_append, Option.toList_some, Option.toList_none, List.append_nil, hset_ss, true_or, or_true, eq_self, beq_self_eq_true, List.drop_succ_cons, List.drop_zero, swT, swL, hset_ap, not_true_eq_false, not_false_eq_true, true_implies, false_implies, implies_true, Int32.reduceLE, Int32.reduceLT, Int32.reduceAdd, Int32.reduceSub, Int32.reduceOfInt, Int32.reduceToNatClampNeg, i10, i01, Nat.add_left_cancel_iff, Nat.left_eq_add, Nat.add_eq_left, cdX10_isLaw, lc_lt, lc_gt, lc_eq, i_nlt, i_nle, l_nlt, l_nle]
  by_cases hP : 0 ≤ v ∧ v < 7
  · rw [if_pos hP] at hq
    (repeat' (first | apply And.intro | intro _)) <;> first | exact hq | (exfalso; simp only [Int32.lt_iff_toInt_lt, Int32.le_iff_toInt_le, ← Int32.toInt_inj, Int64.lt_iff_toInt_lt, Int64.le_iff_toInt_le, ← Int64.toInt_inj, Int32.reduceToInt, Int64.reduceToInt] at *; omega)
  · rw [if_neg hP] at hq
    (repeat' (first | apply And.intro | intro _)) <;> first | exact hq | (exfalso; simp only [Int32.lt_iff_toInt_lt, Int32.le_iff_toInt_le, ← Int32.toInt_inj, Int64.lt_iff_toInt_lt, Int64.le_iff_toInt_le, ← Int64.toInt_inj, Int32.reduceToInt, Int64.reduceToInt] at *; omega)
set_option maxRecDepth 100000 in
set_option maxHeartbeats 400000 in
theorem LX10_isRule {n : Nat} {h : aH} {Q : aQ} {v : Int32} (hq : Q (some (.int (if 0 ≤ v ∧ v < 8 then 1 else 0))) n h) : Ok 129 [.int v] n h Q := by
  refine ok_of kMX10_isRule kCX10_isRule (Nat.le_of_ble_eq_true rfl) (fun z => ?_)
  change A z _ _ 0 0 _ 0 [some (.int v)] [] _
  refine go_ok okF0 (C := cdX10_isRule) (by rfl) [] 40 (by exact Nat.le_of_ble_eq_true rfl) ?_
  simp (maxSteps := 2000000) only [go, stp, inS, ↓reduceIte, Bool.false_eq_true, Nat.reduceLT, Nat.reduceEqDiff, Nat.reduceAdd, ldI, ldL, ldA, st1, st2, okS, List.getElem?_cons_zero, List.getElem?_cons_succ, List.length_cons, List.length_nil, List.set_cons_zero, List.set_cons_succ, callP, callF, popN, ct, Value.category, cI, List.getD_cons_zero, List.getD_cons_succ, and_self, and_true, true_and, Nat.zero_le, Nat.reduceLeDiff, Nat.add_zero, Nat.zero_add, List.nil_append, List.cons_append, Option.toList_some, Option.toList_none, List.append_nil, hset_ss, true_or, or_true, eq_self, beq_self_eq_true, List.drop_succ_cons, List.drop_zero, swT, swL, hset_ap, not_true_eq_false, not_false_eq_true, true_implies, false_implies, implies_true, Int32.reduceLE, Int32.reduceLT, Int32.reduceAdd, Int32.reduceSub, Int32.reduceOfInt, Int32.reduceToNatClampNeg, i10, i01, Nat.add_left_cancel_iff, Nat.left_eq_add, Nat.add_eq_left, cdX10_isRule, lc_lt, lc_gt, lc_eq, i_nlt, i_nle, l_nlt, l_nle]
  by_cases hP : 0 ≤ v ∧ v < 8
  · rw [if_pos hP] at hq
    (repeat' (first | apply And.intro | intro _)) <;> first | exact hq | (exfalso; simp only [Int32.lt_iff_toInt_lt, Int32.le_iff_toInt_le, ← Int32.toInt_inj, Int64.lt_iff_toInt_lt, Int64.le_iff_toInt_le, ← Int64.toInt_inj, Int32.reduceToInt, Int64.reduceToInt] at *; omega)
  · rw [if_neg hP] at hq
    (repeat' (first | apply And.intro | intro _)) <;> first | exact hq | (exfalso; simp only [Int32.lt_iff_toInt_lt, Int32.le_iff_toInt_le, ← Int32.toInt_inj, Int64.lt_iff_toInt_lt, Int64.le_iff_toInt_le, ← Int64.toInt_inj, Int32.reduceToInt, Int64.reduceToInt] at *; omega)
set_option maxRecDepth 100000 in
set_option maxHeartbeats 400000 in
theorem LX10_isForm {n : Nat} {h : aH} {Q : aQ} {v : Int32} (hq : Q (some (.int (if 0 ≤ v ∧ v < 4 then 1 else 0))) n h) : Ok 130 [.int v] n h Q := by
  refine ok_of kMX10_isForm kCX10_isForm (Nat.le_of_ble_eq_true rfl) (fun z => ?_)
  change A z _ _ 0 0 _ 0 [some (.int v)] [] _
  refine go_ok okF0 (C := cdX10_isForm) (by rfl) [] 40 (by exact Nat.le_of_ble_eq_true rfl) ?_
  simp (maxSteps := 2000000) only [go, stp, inS, ↓reduceIte, Bool.false_eq_true, Nat.reduceLT, Nat.reduceEqDiff, Nat.reduceAdd, ldI, ldL, ldA, st1, st2, okS, List.getElem?_cons_zero, List.getElem?_cons_succ, List.length_cons, List.length_nil, List.set_cons_zero, List.set_cons_succ, callP, callF, popN, ct, Value.category, cI, List.getD_cons_zero, List.getD_cons_succ, and_self, and_true, true_and, Nat.zero_le, Nat.reduceLeDiff, Nat.add_zero, Nat.zero_add, List.nil_append, List.cons_append, Option.toList_some, Option.toList_none, List.append_nil, hset_ss, true_or, or_true, eq_self, beq_self_eq_true, List.drop_succ_cons, List.drop_zero, swT, swL, hset_ap, not_true_eq_false, not_false_eq_true, true_implies, false_implies, implies_true, Int32.reduceLE, Int32.reduceLT, Int32.reduceAdd, Int32.reduceSub, Int32.reduceOfInt, Int32.reduceToNatClampNeg, i10, i01, Nat.add_left_cancel_iff, Nat.left_eq_add, Nat.add_eq_left, cdX10_isForm, lc_lt, lc_gt, lc_eq, i_nlt, i_nle, l_nlt, l_nle]
  by_cases hP : 0 ≤ v ∧ v < 4
  · rw [if_pos hP] at hq
    (repeat' (first | apply And.intro | intro _)) <;> first | exact hq | (exfalso; simp only [Int32.lt_iff_toInt_lt, Int32.le_iff_toInt_le, ← Int32.toInt_inj, Int64.lt_iff_toInt_lt, Int64.le_iff_toInt_le, ← Int64.toInt_inj, Int32.reduceToInt, Int64.reduceToInt] at *; omega)
  · rw [if_neg hP] at hq
    (repeat' (first | apply And.intro | intro _)) <;> first | exact hq | (exfalso; simp only [Int32.lt_iff_toInt_lt, Int32.le_iff_toInt_le, ← Int32.toInt_inj, Int64.lt_iff_toInt_lt, Int64.le_iff_toInt_le, ← Int64.toInt_inj, Int32.reduceToInt, Int64.reduceToInt] at *; omega)
set_option maxRecDepth 100000 in
set_option maxHeartbeats 400000 in
theorem LX10_isRoom {n : Nat} {h : aH} {Q : aQ} {v : Int32} (hq : Q (some (.int (if 1 ≤ v ∧ v ≤ 9 then 1 else 0))) n h) : Ok 131 [.int v] n h Q := by
  refine ok_of kMX10_isRoom kCX10_isRoom (Nat.le_of_ble_eq_true rfl) (fun z => ?_)
  change A z _ _ 0 0 _ 0 [some (.int v)] [] _
  refine go_ok okF0 (C := cdX10_isRoom) (by rfl) [] 40 (by exact Nat.le_of_ble_eq_true rfl) ?_
  simp (maxSteps := 2000000) only [go, stp, inS, ↓reduceIte, Bool.false_eq_true, Nat.reduceLT, Nat.reduceEqDiff, Nat.reduceAdd, ldI, ldL, ldA, st1, st2, okS, List.getElem?_cons_zero, List.getElem?_cons_succ, List.length_cons, List.length_nil, List.set_cons_zero, List.set_cons_succ, callP, callF, popN, ct, Value.category, cI, List.getD_cons_zero, List.getD_cons_succ, and_self, and_true, true_and, Nat.zero_le, Nat.reduceLeDiff, Nat.add_zero, Nat.zero_add, List.nil_append, List.cons_append, Option.toList_some, Option.toList_none, List.append_nil, hset_ss, true_or, or_true, eq_self, beq_self_eq_true, List.drop_succ_cons, List.drop_zero, swT, swL, hset_ap, not_true_eq_false, not_false_eq_true, true_implies, false_implies, implies_true, Int32.reduceLE, Int32.reduceLT, Int32.reduceAdd, Int32.reduceSub, Int32.reduceOfInt, Int32.reduceToNatClampNeg, i10, i01, Nat.add_left_cancel_iff, Nat.left_eq_add, Nat.add_eq_left, cdX10_isRoom, lc_lt, lc_gt, lc_eq, i_nlt, i_nle, l_nlt, l_nle]
  by_cases hP : 1 ≤ v ∧ v ≤ 9
  · rw [if_pos hP] at hq
    (repeat' (first | apply And.intro | intro _)) <;> first | exact hq | (exfalso; simp only [Int32.lt_iff_toInt_lt, Int32.le_iff_toInt_le, ← Int32.toInt_inj, Int64.lt_iff_toInt_lt, Int64.le_iff_toInt_le, ← Int64.toInt_inj, Int32.reduceToInt, Int64.reduceToInt] at *; omega)
  · rw [if_neg hP] at hq
    (repeat' (first | apply And.intro | intro _)) <;> first | exact hq | (exfalso; simp only [Int32.lt_iff_toInt_lt, Int32.le_iff_toInt_le, ← Int32.toInt_inj, Int64.lt_iff_toInt_lt, Int64.le_iff_toInt_le, ← Int64.toInt_inj, Int32.reduceToInt, Int64.reduceToInt] at *; omega)
set_option maxRecDepth 100000 in
set_option maxHeartbeats 400000 in
theorem LX10_mayStand {n : Nat} {h : aH} {Q : aQ} {v : Int64} (hq : Q (some (.int (if v = -100 ∨ (-9 ≤ v ∧ v ≤ 9) then 1 else 0))) n h) : Ok 127 [.long v] n h Q := by
  refine ok_of kMX10_mayStand kCX10_mayStand (Nat.le_of_ble_eq_true rfl) (fun z => ?_)
  change A z _ _ 0 0 _ 0 [some (.long v), none] [] _
  refine go_ok okF0 (C := cdX10_mayStand) (by rfl) [] 40 (by exact Nat.le_of_ble_eq_true rfl) ?_
  simp (maxSteps := 2000000) only [go, stp, inS, ↓reduceIte, Bool.false_eq_true, Nat.reduceLT, Nat.reduceEqDiff, Nat.reduceAdd, ldI, ldL, ldA, st1, st2, okS, List.getElem?_cons_zero, List.getElem?_cons_succ, List.length_cons, List.length_nil, List.set_cons_zero, List.set_cons_succ, callP, callF, popN, ct, Value.category, cI, List.getD_cons_zero, List.getD_cons_succ, and_self, and_true, true_and, Nat.zero_le, Nat.reduceLeDiff, Nat.add_zero, Nat.zero_add, List.nil_append, List.cons_append, Option.toList_some, Option.toList_none, List.append_nil, hset_ss, true_or, or_true, eq_self, beq_self_eq_true, List.drop_succ_cons, List.drop_zero, swT, swL, hset_ap, not_true_eq_false, not_false_eq_true, true_implies, false_implies, implies_true, Int32.reduceLE, Int32.reduceLT, Int32.reduceAdd, Int32.reduceSub, Int32.reduceOfInt, Int32.reduceToNatClampNeg, i10, i01, Nat.add_left_cancel_iff, Nat.left_eq_add, Nat.add_eq_left, cdX10_mayStand, lc_lt, lc_gt, lc_eq, i_nlt, i_nle, l_nlt, l_nle]
  by_cases hP : v = -100 ∨ (-9 ≤ v ∧ v ≤ 9)
  · rw [if_pos hP] at hq
    (repeat' (first | apply And.intro | intro _)) <;> first | exact hq | (exfalso; simp only [Int32.lt_iff_toInt_lt, Int32.le_iff_toInt_le, ← Int32.toInt_inj, Int64.lt_iff_toInt_lt, Int64.le_iff_toInt_le, ← Int64.toInt_inj, Int32.reduceToInt, Int64.reduceToInt] at *; omega)
  · rw [if_neg hP] at hq
    (repeat' (first | apply And.intro | intro _)) <;> first | exact hq | (exfalso; simp only [Int32.lt_iff_toInt_lt, Int32.le_iff_toInt_le, ← Int32.toInt_inj, Int64.lt_iff_toInt_lt, Int64.le_iff_toInt_le, ← Int64.toInt_inj, Int32.reduceToInt, Int64.reduceToInt] at *; omega)
set_option maxRecDepth 100000 in
set_option maxHeartbeats 400000 in
theorem LX9_isCompareSign {n : Nat} {h : aH} {Q : aQ} {v : Int32} (hq : Q (some (.int (if v = 60 ∨ v = 61 ∨ v = 62 then 1 else 0))) n h) : Ok 83 [.int v] n h Q := by
  refine ok_of kMX9_isCompareSign kCX9_isCompareSign (Nat.le_of_ble_eq_true rfl) (fun z => ?_)
  change A z _ _ 0 0 _ 0 [some (.int v)] [] _
  refine go_ok okF0 (C := cdX9_isCompareSign) (by rfl) [] 40 (by exact Nat.le_of_ble_eq_true rfl) ?_
  simp (maxSteps := 2000000) only [go, stp, inS, ↓reduceIte, Bool.false_eq_true, Nat.reduceLT, Nat.reduceEqDiff, Nat.reduceAdd, ldI, ldL, ldA, st1, st2, okS, List.getElem?_cons_zero, List.getElem?_cons_succ, List.length_cons, List.length_nil, List.set_cons_zero, List.set_cons_succ, callP, callF, popN, ct, Value.category, cI, List.getD_cons_zero, List.getD_cons_succ, and_self, and_true, true_and, Nat.zero_le, Nat.reduceLeDiff, Nat.add_zero, Nat.zero_add, List.nil_append, List.cons_append, Option.toList_some, Option.toList_none, List.append_nil, hset_ss, true_or, or_true, eq_self, beq_self_eq_true, List.drop_succ_cons, List.drop_zero, swT, swL, hset_ap, not_true_eq_false, not_false_eq_true, true_implies, false_implies, implies_true, Int32.reduceLE, Int32.reduceLT, Int32.reduceAdd, Int32.reduceSub, Int32.reduceOfInt, Int32.reduceToNatClampNeg, i10, i01, Nat.add_left_cancel_iff, Nat.left_eq_add, Nat.add_eq_left, cdX9_isCompareSign, lc_lt, lc_gt, lc_eq, i_nlt, i_nle, l_nlt, l_nle]
  by_cases hP : v = 60 ∨ v = 61 ∨ v = 62
  · rw [if_pos hP] at hq
    (repeat' (first | apply And.intro | intro _)) <;> first | exact hq | (exfalso; simp only [Int32.lt_iff_toInt_lt, Int32.le_iff_toInt_le, ← Int32.toInt_inj, Int64.lt_iff_toInt_lt, Int64.le_iff_toInt_le, ← Int64.toInt_inj, Int32.reduceToInt, Int64.reduceToInt] at *; omega)
  · rw [if_neg hP] at hq
    (repeat' (first | apply And.intro | intro _)) <;> first | exact hq | (exfalso; simp only [Int32.lt_iff_toInt_lt, Int32.le_iff_toInt_le, ← Int32.toInt_inj, Int64.lt_iff_toInt_lt, Int64.le_iff_toInt_le, ← Int64.toInt_inj, Int32.reduceToInt, Int64.reduceToInt] at *; omega)
set_option maxRecDepth 100000 in
set_option maxHeartbeats 400000 in
theorem LX11_in {n : Nat} {h : aH} {Q : aQ} {v : Int64} {a : Int64} {b : Int64} (hq : Q (some (.int (if a ≤ v ∧ v ≤ b then 1 else 0))) n h) : Ok 146 [.long v, .long a, .long b] n h Q := by
  refine ok_of kMX11_in kCX11_in (Nat.le_of_ble_eq_true rfl) (fun z => ?_)
  change A z _ _ 0 0 _ 0 [some (.long v), none, some (.long a), none, some (.long b), none] [] _
  refine go_ok okF0 (C := cdX11_in) (by rfl) [] 40 (by exact Nat.le_of_ble_eq_true rfl) ?_
  simp (maxSteps := 2000000) only [go, stp, inS, ↓reduceIte, Bool.false_eq_true, Nat.reduceLT, Nat.reduceEqDiff, Nat.reduceAdd, ldI, ldL, ldA, st1, st2, okS, List.getElem?_cons_zero, List.getElem?_cons_succ, List.length_cons, List.length_nil, List.set_cons_zero, List.set_cons_succ, callP, callF, popN, ct, Value.category, cI, List.getD_cons_zero, List.getD_cons_succ, and_self, and_true, true_and, Nat.zero_le, Nat.reduceLeDiff, Nat.add_zero, Nat.zero_add, List.nil_append, List.cons_append, Option.toList_some, Option.toList_none, List.append_nil, hset_ss, true_or, or_true, eq_self, beq_self_eq_true, List.drop_succ_cons, List.drop_zero, swT, swL, hset_ap, not_true_eq_false, not_false_eq_true, true_implies, false_implies, implies_true, Int32.reduceLE, Int32.reduceLT, Int32.reduceAdd, Int32.reduceSub, Int32.reduceOfInt, Int32.reduceToNatClampNeg, i10, i01, Nat.add_left_cancel_iff, Nat.left_eq_add, Nat.add_eq_left, cdX11_in, lc_lt, lc_gt, lc_eq, i_nlt, i_nle, l_nlt, l_nle]
  by_cases hP : a ≤ v ∧ v ≤ b
  · rw [if_pos hP] at hq
    (repeat' (first | apply And.intro | intro _)) <;> first | exact hq | (exfalso; simp only [Int32.lt_iff_toInt_lt, Int32.le_iff_toInt_le, ← Int32.toInt_inj, Int64.lt_iff_toInt_lt, Int64.le_iff_toInt_le, ← Int64.toInt_inj, Int32.reduceToInt, Int64.reduceToInt] at *; omega)
  · rw [if_neg hP] at hq
    (repeat' (first | apply And.intro | intro _)) <;> first | exact hq | (exfalso; simp only [Int32.lt_iff_toInt_lt, Int32.le_iff_toInt_le, ← Int32.toInt_inj, Int64.lt_iff_toInt_lt, Int64.le_iff_toInt_le, ← Int64.toInt_inj, Int32.reduceToInt, Int64.reduceToInt] at *; omega)
set_option maxRecDepth 100000 in
set_option maxHeartbeats 400000 in
theorem LX11_isSheet {n : Nat} {h : aH} {Q : aQ} {v : Int32} (hq : Q (some (.int (if 0 ≤ v ∧ v < 4 then 1 else 0))) n h) : Ok 148 [.int v] n h Q := by
  refine ok_of kMX11_isSheet kCX11_isSheet (Nat.le_of_ble_eq_true rfl) (fun z => ?_)
  change A z _ _ 0 0 _ 0 [some (.int v)] [] _
  refine go_ok okF0 (C := cdX11_isSheet) (by rfl) [] 10 (by exact Nat.le_of_ble_eq_true rfl) ?_
  simp (maxSteps := 2000000) only [go, stp, inS, ↓reduceIte, Bool.false_eq_true, Nat.reduceLT, Nat.reduceEqDiff, Nat.reduceAdd, ldI, ldL, ldA, st1, st2, okS, List.getElem?_cons_zero, List.getElem?_cons_succ, List.length_cons, List.length_nil, List.set_cons_zero, List.set_cons_succ, callP, callF, popN, ct, Value.category, cI, List.getD_cons_zero, List.getD_cons_succ, and_self, and_true, true_and, Nat.zero_le, Nat.reduceLeDiff, Nat.add_zero, Nat.zero_add, List.nil_append, List.cons_append, Option.toList_some, Option.toList_none, List.append_nil, hset_ss, true_or, or_true, eq_self, beq_self_eq_true, List.drop_succ_cons, List.drop_zero, swT, swL, hset_ap, not_true_eq_false, not_false_eq_true, true_implies, false_implies, implies_true, Int32.reduceLE, Int32.reduceLT, Int32.reduceAdd, Int32.reduceSub, Int32.reduceOfInt, Int32.reduceToNatClampNeg, i10, i01, Nat.add_left_cancel_iff, Nat.left_eq_add, Nat.add_eq_left, cdX11_isSheet]
  refine LX11_in ?_
  refine go_ok okF0 (C := cdX11_isSheet) (by rfl) [] 10 (by exact Nat.le_of_ble_eq_true rfl) ?_
  simp (maxSteps := 2000000) only [go, stp, inS, ↓reduceIte, Bool.false_eq_true, Nat.reduceLT, Nat.reduceEqDiff, Nat.reduceAdd, ldI, ldL, ldA, st1, st2, okS, List.getElem?_cons_zero, List.getElem?_cons_succ, List.length_cons, List.length_nil, List.set_cons_zero, List.set_cons_succ, callP, callF, popN, ct, Value.category, cI, List.getD_cons_zero, List.getD_cons_succ, and_self, and_true, true_and, Nat.zero_le, Nat.reduceLeDiff, Nat.add_zero, Nat.zero_add, List.nil_append, List.cons_append, Option.toList_some, Option.toList_none, List.append_nil, hset_ss, true_or, or_true, eq_self, beq_self_eq_true, List.drop_succ_cons, List.drop_zero, swT, swL, hset_ap, not_true_eq_false, not_false_eq_true, true_implies, false_implies, implies_true, Int32.reduceLE, Int32.reduceLT, Int32.reduceAdd, Int32.reduceSub, Int32.reduceOfInt, Int32.reduceToNatClampNeg, i10, i01, Nat.add_left_cancel_iff, Nat.left_eq_add, Nat.add_eq_left, cdX11_isSheet]
  have e1 : (0 : Int64) ≤ v.toInt64 ↔ 0 ≤ v := by rw [il_0]
  have e2 : v.toInt64 ≤ (3 : Int64) ↔ v < 4 := by rw [show (3 : Int64) = (3 : Int32).toInt64 from rfl, il_le, Int32.le_iff_toInt_le, Int32.lt_iff_toInt_lt]; exact Int.lt_add_one_iff.symm
  simp only [e1, e2, ib01, true_and]
  exact hq
set_option maxRecDepth 100000 in
set_option maxHeartbeats 400000 in
theorem LX11_isText {n : Nat} {h : aH} {Q : aQ} {v : Int32} (hq : Q (some (.int (if 0 ≤ v ∧ v < 2 then 1 else 0))) n h) : Ok 166 [.int v] n h Q := by
  refine ok_of kMX11_isText kCX11_isText (Nat.le_of_ble_eq_true rfl) (fun z => ?_)
  change A z _ _ 0 0 _ 0 [some (.int v)] [] _
  refine go_ok okF0 (C := cdX11_isText) (by rfl) [] 10 (by exact Nat.le_of_ble_eq_true rfl) ?_
  simp (maxSteps := 2000000) only [go, stp, inS, ↓reduceIte, Bool.false_eq_true, Nat.reduceLT, Nat.reduceEqDiff, Nat.reduceAdd, ldI, ldL, ldA, st1, st2, okS, List.getElem?_cons_zero, List.getElem?_cons_succ, List.length_cons, List.length_nil, List.set_cons_zero, List.set_cons_succ, callP, callF, popN, ct, Value.category, cI, List.getD_cons_zero, List.getD_cons_succ, and_self, and_true, true_and, Nat.zero_le, Nat.reduceLeDiff, Nat.add_zero, Nat.zero_add, List.nil_append, List.cons_append, Option.toList_some, Option.toList_none, List.append_nil, hset_ss, true_or, or_true, eq_self, beq_self_eq_true, List.drop_succ_cons, List.drop_zero, swT, swL, hset_ap, not_true_eq_false, not_false_eq_true, true_implies, false_implies, implies_true, Int32.reduceLE, Int32.reduceLT, Int32.reduceAdd, Int32.reduceSub, Int32.reduceOfInt, Int32.reduceToNatClampNeg, i10, i01, Nat.add_left_cancel_iff, Nat.left_eq_add, Nat.add_eq_left, cdX11_isText]
  refine LX11_in ?_
  refine go_ok okF0 (C := cdX11_isText) (by rfl) [] 10 (by exact Nat.le_of_ble_eq_true rfl) ?_
  simp (maxSteps := 2000000) only [go, stp, inS, ↓reduceIte, Bool.false_eq_true, Nat.reduceLT, Nat.reduceEqDiff, Nat.reduceAdd, ldI, ldL, ldA, st1, st2, okS, List.getElem?_cons_zero, List.getElem?_cons_succ, List.length_cons, List.length_nil, List.set_cons_zero, List.set_cons_succ, callP, callF, popN, ct, Value.category, cI, List.getD_cons_zero, List.getD_cons_succ, and_self, and_true, true_and, Nat.zero_le, Nat.reduceLeDiff, Nat.add_zero, Nat.zero_add, List.nil_append, List.cons_append, Option.toList_some, Option.toList_none, List.append_nil, hset_ss, true_or, or_true, eq_self, beq_self_eq_true, List.drop_succ_cons, List.drop_zero, swT, swL, hset_ap, not_true_eq_false, not_false_eq_true, true_implies, false_implies, implies_true, Int32.reduceLE, Int32.reduceLT, Int32.reduceAdd, Int32.reduceSub, Int32.reduceOfInt, Int32.reduceToNatClampNeg, i10, i01, Nat.add_left_cancel_iff, Nat.left_eq_add, Nat.add_eq_left, cdX11_isText]
  have e1 : (0 : Int64) ≤ v.toInt64 ↔ 0 ≤ v := by rw [il_0]
  have e2 : v.toInt64 ≤ (1 : Int64) ↔ v < 2 := by rw [show (1 : Int64) = (1 : Int32).toInt64 from rfl, il_le, Int32.le_iff_toInt_le, Int32.lt_iff_toInt_lt]; exact Int.lt_add_one_iff.symm
  simp only [e1, e2, ib01, true_and]
  exact hq
set_option maxRecDepth 100000 in
set_option maxHeartbeats 400000 in
theorem LX11_isLaw {n : Nat} {h : aH} {Q : aQ} {v : Int32} (hq : Q (some (.int (if 0 ≤ v ∧ v < 7 then 1 else 0))) n h) : Ok 211 [.int v] n h Q := by
  refine ok_of kMX11_isLaw kCX11_isLaw (Nat.le_of_ble_eq_true rfl) (fun z => ?_)
  change A z _ _ 0 0 _ 0 [some (.int v)] [] _
  refine go_ok okF0 (C := cdX11_isLaw) (by rfl) [] 10 (by exact Nat.le_of_ble_eq_true rfl) ?_
  simp (maxSteps := 2000000) only [go, stp, inS, ↓reduceIte, Bool.false_eq_true, Nat.reduceLT, Nat.reduceEqDiff, Nat.reduceAdd, ldI, ldL, ldA, st1, st2, okS, List.getElem?_cons_zero, List.getElem?_cons_succ, List.length_cons, List.length_nil, List.set_cons_zero, List.set_cons_succ, callP, callF, popN, ct, Value.category, cI, List.getD_cons_zero, List.getD_cons_succ, and_self, and_true, true_and, Nat.zero_le, Nat.reduceLeDiff, Nat.add_zero, Nat.zero_add, List.nil_append, List.cons_append, Option.toList_some, Option.toList_none, List.append_nil, hset_ss, true_or, or_true, eq_self, beq_self_eq_true, List.drop_succ_cons, List.drop_zero, swT, swL, hset_ap, not_true_eq_false, not_false_eq_true, true_implies, false_implies, implies_true, Int32.reduceLE, Int32.reduceLT, Int32.reduceAdd, Int32.reduceSub, Int32.reduceOfInt, Int32.reduceToNatClampNeg, i10, i01, Nat.add_left_cancel_iff, Nat.left_eq_add, Nat.add_eq_left, cdX11_isLaw]
  refine LX11_in ?_
  refine go_ok okF0 (C := cdX11_isLaw) (by rfl) [] 10 (by exact Nat.le_of_ble_eq_true rfl) ?_
  simp (maxSteps := 2000000) only [go, stp, inS, ↓reduceIte, Bool.false_eq_true, Nat.reduceLT, Nat.reduceEqDiff, Nat.reduceAdd, ldI, ldL, ldA, st1, st2, okS, List.getElem?_cons_zero, List.getElem?_cons_succ, List.length_cons, List.length_nil, List.set_cons_zero, List.set_cons_succ, callP, callF, popN, ct, Value.category, cI, List.getD_cons_zero, List.getD_cons_succ, and_self, and_true, true_and, Nat.zero_le, Nat.reduceLeDiff, Nat.add_zero, Nat.zero_add, List.nil_append, List.cons_append, Option.toList_some, Option.toList_none, List.append_nil, hset_ss, true_or, or_true, eq_self, beq_self_eq_true, List.drop_succ_cons, List.drop_zero, swT, swL, hset_ap, not_true_eq_false, not_false_eq_true, true_implies, false_implies, implies_true, Int32.reduceLE, Int32.reduceLT, Int32.reduceAdd, Int32.reduceSub, Int32.reduceOfInt, Int32.reduceToNatClampNeg, i10, i01, Nat.add_left_cancel_iff, Nat.left_eq_add, Nat.add_eq_left, cdX11_isLaw]
  have e1 : (0 : Int64) ≤ v.toInt64 ↔ 0 ≤ v := by rw [il_0]
  have e2 : v.toInt64 ≤ (6 : Int64) ↔ v < 7 := by rw [show (6 : Int64) = (6 : Int32).toInt64 from rfl, il_le, Int32.le_iff_toInt_le, Int32.lt_iff_toInt_lt]; exact Int.lt_add_one_iff.symm
  simp only [e1, e2, ib01, true_and]
  exact hq
set_option maxRecDepth 100000 in
set_option maxHeartbeats 400000 in
theorem LX11_isRoom {n : Nat} {h : aH} {Q : aQ} {v : Int32} (hq : Q (some (.int (if 1 ≤ v ∧ v ≤ 9 then 1 else 0))) n h) : Ok 222 [.int v] n h Q := by
  refine ok_of kMX11_isRoom kCX11_isRoom (Nat.le_of_ble_eq_true rfl) (fun z => ?_)
  change A z _ _ 0 0 _ 0 [some (.int v)] [] _
  refine go_ok okF0 (C := cdX11_isRoom) (by rfl) [] 10 (by exact Nat.le_of_ble_eq_true rfl) ?_
  simp (maxSteps := 2000000) only [go, stp, inS, ↓reduceIte, Bool.false_eq_true, Nat.reduceLT, Nat.reduceEqDiff, Nat.reduceAdd, ldI, ldL, ldA, st1, st2, okS, List.getElem?_cons_zero, List.getElem?_cons_succ, List.length_cons, List.length_nil, List.set_cons_zero, List.set_cons_succ, callP, callF, popN, ct, Value.category, cI, List.getD_cons_zero, List.getD_cons_succ, and_self, and_true, true_and, Nat.zero_le, Nat.reduceLeDiff, Nat.add_zero, Nat.zero_add, List.nil_append, List.cons_append, Option.toList_some, Option.toList_none, List.append_nil, hset_ss, true_or, or_true, eq_self, beq_self_eq_true, List.drop_succ_cons, List.drop_zero, swT, swL, hset_ap, not_true_eq_false, not_false_eq_true, true_implies, false_implies, implies_true, Int32.reduceLE, Int32.reduceLT, Int32.reduceAdd, Int32.reduceSub, Int32.reduceOfInt, Int32.reduceToNatClampNeg, i10, i01, Nat.add_left_cancel_iff, Nat.left_eq_add, Nat.add_eq_left, cdX11_isRoom]
  refine LX11_in ?_
  refine go_ok okF0 (C := cdX11_isRoom) (by rfl) [] 10 (by exact Nat.le_of_ble_eq_true rfl) ?_
  simp (maxSteps := 2000000) only [go, stp, inS, ↓reduceIte, Bool.false_eq_true, Nat.reduceLT, Nat.reduceEqDiff, Nat.reduceAdd, ldI, ldL, ldA, st1, st2, okS, List.getElem?_cons_zero, List.getElem?_cons_succ, List.length_cons, List.length_nil, List.set_cons_zero, List.set_cons_succ, callP, callF, popN, ct, Value.category, cI, List.getD_cons_zero, List.getD_cons_succ, and_self, and_true, true_and, Nat.zero_le, Nat.reduceLeDiff, Nat.add_zero, Nat.zero_add, List.nil_append, List.cons_append, Option.toList_some, Option.toList_none, List.append_nil, hset_ss, true_or, or_true, eq_self, beq_self_eq_true, List.drop_succ_cons, List.drop_zero, swT, swL, hset_ap, not_true_eq_false, not_false_eq_true, true_implies, false_implies, implies_true, Int32.reduceLE, Int32.reduceLT, Int32.reduceAdd, Int32.reduceSub, Int32.reduceOfInt, Int32.reduceToNatClampNeg, i10, i01, Nat.add_left_cancel_iff, Nat.left_eq_add, Nat.add_eq_left, cdX11_isRoom]
  have e1 : (1 : Int64) ≤ v.toInt64 ↔ 1 ≤ v := by rw [il_1]
  have e2 : v.toInt64 ≤ (9 : Int64) ↔ v ≤ 9 := by rw [show (9 : Int64) = (9 : Int32).toInt64 from rfl, il_le]
  simp only [e1, e2, ib01, true_and]
  exact hq
set_option maxRecDepth 100000 in
set_option maxHeartbeats 400000 in
theorem LX11_isTwo {n : Nat} {h : aH} {Q : aQ} {v : Int32} (hq : Q (some (.int (if v = 38 ∨ v = 124 then 1 else 0))) n h) : Ok 171 [.int v] n h Q := by
  refine ok_of kMX11_isTwo kCX11_isTwo (Nat.le_of_ble_eq_true rfl) (fun z => ?_)
  change A z _ _ 0 0 _ 0 [some (.int v)] [] _
  refine go_ok okF0 (C := cdX11_isTwo) (by rfl) [] 40 (by exact Nat.le_of_ble_eq_true rfl) ?_
  simp (maxSteps := 2000000) only [go, stp, inS, ↓reduceIte, Bool.false_eq_true, Nat.reduceLT, Nat.reduceEqDiff, Nat.reduceAdd, ldI, ldL, ldA, st1, st2, okS, List.getElem?_cons_zero, List.getElem?_cons_succ, List.length_cons, List.length_nil, List.set_cons_zero, List.set_cons_succ, callP, callF, popN, ct, Value.category, cI, List.getD_cons_zero, List.getD_cons_succ, and_self, and_true, true_and, Nat.zero_le, Nat.reduceLeDiff, Nat.add_zero, Nat.zero_add, List.nil_append, List.cons_append, Option.toList_some, Option.toList_none, List.append_nil, hset_ss, true_or, or_true, eq_self, beq_self_eq_true, List.drop_succ_cons, List.drop_zero, swT, swL, hset_ap, not_true_eq_false, not_false_eq_true, true_implies, false_implies, implies_true, Int32.reduceLE, Int32.reduceLT, Int32.reduceAdd, Int32.reduceSub, Int32.reduceOfInt, Int32.reduceToNatClampNeg, i10, i01, Nat.add_left_cancel_iff, Nat.left_eq_add, Nat.add_eq_left, cdX11_isTwo, lc_lt, lc_gt, lc_eq, i_nlt, i_nle, l_nlt, l_nle]
  by_cases hP : v = 38 ∨ v = 124
  · rw [if_pos hP] at hq
    (repeat' (first | apply And.intro | intro _)) <;> first | exact hq | (exfalso; simp only [Int32.lt_iff_toInt_lt, Int32.le_iff_toInt_le, ← Int32.toInt_inj, Int64.lt_iff_toInt_lt, Int64.le_iff_toInt_le, ← Int64.toInt_inj, Int32.reduceToInt, Int64.reduceToInt] at *; omega)
  · rw [if_neg hP] at hq
    (repeat' (first | apply And.intro | intro _)) <;> first | exact hq | (exfalso; simp only [Int32.lt_iff_toInt_lt, Int32.le_iff_toInt_le, ← Int32.toInt_inj, Int64.lt_iff_toInt_lt, Int64.le_iff_toInt_le, ← Int64.toInt_inj, Int32.reduceToInt, Int64.reduceToInt] at *; omega)
set_option maxRecDepth 100000 in
set_option maxHeartbeats 400000 in
theorem LX11_isOne {n : Nat} {h : aH} {Q : aQ} {v : Int32} (hq : Q (some (.int (if v = 33 ∨ v = 63 then 1 else 0))) n h) : Ok 172 [.int v] n h Q := by
  refine ok_of kMX11_isOne kCX11_isOne (Nat.le_of_ble_eq_true rfl) (fun z => ?_)
  change A z _ _ 0 0 _ 0 [some (.int v)] [] _
  refine go_ok okF0 (C := cdX11_isOne) (by rfl) [] 40 (by exact Nat.le_of_ble_eq_true rfl) ?_
  simp (maxSteps := 2000000) only [go, stp, inS, ↓reduceIte, Bool.false_eq_true, Nat.reduceLT, Nat.reduceEqDiff, Nat.reduceAdd, ldI, ldL, ldA, st1, st2, okS, List.getElem?_cons_zero, List.getElem?_cons_succ, List.length_cons, List.length_nil, List.set_cons_zero, List.set_cons_succ, callP, callF, popN, ct, Value.category, cI, List.getD_cons_zero, List.getD_cons_succ, and_self, and_true, true_and, Nat.zero_le, Nat.reduceLeDiff, Nat.add_zero, Nat.zero_add, List.nil_append, List.cons_append, Option.toList_some, Option.toList_none, List.append_nil, hset_ss, true_or, or_true, eq_self, beq_self_eq_true, List.drop_succ_cons, List.drop_zero, swT, swL, hset_ap, not_true_eq_false, not_false_eq_true, true_implies, false_implies, implies_true, Int32.reduceLE, Int32.reduceLT, Int32.reduceAdd, Int32.reduceSub, Int32.reduceOfInt, Int32.reduceToNatClampNeg, i10, i01, Nat.add_left_cancel_iff, Nat.left_eq_add, Nat.add_eq_left, cdX11_isOne, lc_lt, lc_gt, lc_eq, i_nlt, i_nle, l_nlt, l_nle]
  by_cases hP : v = 33 ∨ v = 63
  · rw [if_pos hP] at hq
    (repeat' (first | apply And.intro | intro _)) <;> first | exact hq | (exfalso; simp only [Int32.lt_iff_toInt_lt, Int32.le_iff_toInt_le, ← Int32.toInt_inj, Int64.lt_iff_toInt_lt, Int64.le_iff_toInt_le, ← Int64.toInt_inj, Int32.reduceToInt, Int64.reduceToInt] at *; omega)
  · rw [if_neg hP] at hq
    (repeat' (first | apply And.intro | intro _)) <;> first | exact hq | (exfalso; simp only [Int32.lt_iff_toInt_lt, Int32.le_iff_toInt_le, ← Int32.toInt_inj, Int64.lt_iff_toInt_lt, Int64.le_iff_toInt_le, ← Int64.toInt_inj, Int32.reduceToInt, Int64.reduceToInt] at *; omega)
set_option maxRecDepth 100000 in
set_option maxHeartbeats 400000 in
theorem LX11_isThan {n : Nat} {h : aH} {Q : aQ} {v : Int32} (hq : Q (some (.int (if v = 60 ∨ v = 61 ∨ v = 62 then 1 else 0))) n h) : Ok 173 [.int v] n h Q := by
  refine ok_of kMX11_isThan kCX11_isThan (Nat.le_of_ble_eq_true rfl) (fun z => ?_)
  change A z _ _ 0 0 _ 0 [some (.int v)] [] _
  refine go_ok okF0 (C := cdX11_isThan) (by rfl) [] 40 (by exact Nat.le_of_ble_eq_true rfl) ?_
  simp (maxSteps := 2000000) only [go, stp, inS, ↓reduceIte, Bool.false_eq_true, Nat.reduceLT, Nat.reduceEqDiff, Nat.reduceAdd, ldI, ldL, ldA, st1, st2, okS, List.getElem?_cons_zero, List.getElem?_cons_succ, List.length_cons, List.length_nil, List.set_cons_zero, List.set_cons_succ, callP, callF, popN, ct, Value.category, cI, List.getD_cons_zero, List.getD_cons_succ, and_self, and_true, true_and, Nat.zero_le, Nat.reduceLeDiff, Nat.add_zero, Nat.zero_add, List.nil_append, List.cons_append, Option.toList_some, Option.toList_none, List.append_nil, hset_ss, true_or, or_true, eq_self, beq_self_eq_true, List.drop_succ_cons, List.drop_zero, swT, swL, hset_ap, not_true_eq_false, not_false_eq_true, true_implies, false_implies, implies_true, Int32.reduceLE, Int32.reduceLT, Int32.reduceAdd, Int32.reduceSub, Int32.reduceOfInt, Int32.reduceToNatClampNeg, i10, i01, Nat.add_left_cancel_iff, Nat.left_eq_add, Nat.add_eq_left, cdX11_isThan, lc_lt, lc_gt, lc_eq, i_nlt, i_nle, l_nlt, l_nle]
  by_cases hP : v = 60 ∨ v = 61 ∨ v = 62
  · rw [if_pos hP] at hq
    (repeat' (first | apply And.intro | intro _)) <;> first | exact hq | (exfalso; simp only [Int32.lt_iff_toInt_lt, Int32.le_iff_toInt_le, ← Int32.toInt_inj, Int64.lt_iff_toInt_lt, Int64.le_iff_toInt_le, ← Int64.toInt_inj, Int32.reduceToInt, Int64.reduceToInt] at *; omega)
  · rw [if_neg hP] at hq
    (repeat' (first | apply And.intro | intro _)) <;> first | exact hq | (exfalso; simp only [Int32.lt_iff_toInt_lt, Int32.le_iff_toInt_le, ← Int32.toInt_inj, Int64.lt_iff_toInt_lt, Int64.le_iff_toInt_le, ← Int64.toInt_inj, Int32.reduceToInt, Int64.reduceToInt] at *; omega)
set_option maxRecDepth 100000 in
set_option maxHeartbeats 400000 in
theorem LX11_isValue {n : Nat} {h : aH} {Q : aQ} {v : Int64} (hq : Q (some (.int (if v = -100 ∨ (-9 ≤ v ∧ v ≤ 9) then 1 else 0))) n h) : Ok 156 [.long v] n h Q := by
  refine ok_of kMX11_isValue kCX11_isValue (Nat.le_of_ble_eq_true rfl) (fun z => ?_)
  change A z _ _ 0 0 _ 0 [some (.long v), none] [] _
  refine go_ok okF0 (C := cdX11_isValue) (by rfl) [] 10 (by exact Nat.le_of_ble_eq_true rfl) ?_
  simp (maxSteps := 2000000) only [go, stp, inS, ↓reduceIte, Bool.false_eq_true, Nat.reduceLT, Nat.reduceEqDiff, Nat.reduceAdd, ldI, ldL, ldA, st1, st2, okS, List.getElem?_cons_zero, List.getElem?_cons_succ, List.length_cons, List.length_nil, List.set_cons_zero, List.set_cons_succ, callP, callF, popN, ct, Value.category, cI, List.getD_cons_zero, List.getD_cons_succ, and_self, and_true, true_and, Nat.zero_le, Nat.reduceLeDiff, Nat.add_zero, Nat.zero_add, List.nil_append, List.cons_append, Option.toList_some, Option.toList_none, List.append_nil, hset_ss, true_or, or_true, eq_self, beq_self_eq_true, List.drop_succ_cons, List.drop_zero, swT, swL, hset_ap, not_true_eq_false, not_false_eq_true, true_implies, false_implies, implies_true, Int32.reduceLE, Int32.reduceLT, Int32.reduceAdd, Int32.reduceSub, Int32.reduceOfInt, Int32.reduceToNatClampNeg, i10, i01, Nat.add_left_cancel_iff, Nat.left_eq_add, Nat.add_eq_left, cdX11_isValue, lc_eq]
  refine ⟨fun c => ?_, fun c => ?_⟩
  · simpa [c] using hq
  · refine LX11_in ?_
    refine go_ok okF0 (C := cdX11_isValue) (by rfl) [] 10 (by exact Nat.le_of_ble_eq_true rfl) ?_
    simp (maxSteps := 2000000) only [go, stp, inS, ↓reduceIte, Bool.false_eq_true, Nat.reduceLT, Nat.reduceEqDiff, Nat.reduceAdd, ldI, ldL, ldA, st1, st2, okS, List.getElem?_cons_zero, List.getElem?_cons_succ, List.length_cons, List.length_nil, List.set_cons_zero, List.set_cons_succ, callP, callF, popN, ct, Value.category, cI, List.getD_cons_zero, List.getD_cons_succ, and_self, and_true, true_and, Nat.zero_le, Nat.reduceLeDiff, Nat.add_zero, Nat.zero_add, List.nil_append, List.cons_append, Option.toList_some, Option.toList_none, List.append_nil, hset_ss, true_or, or_true, eq_self, beq_self_eq_true, List.drop_succ_cons, List.drop_zero, swT, swL, hset_ap, not_true_eq_false, not_false_eq_true, true_implies, false_implies, implies_true, Int32.reduceLE, Int32.reduceLT, Int32.reduceAdd, Int32.reduceSub, Int32.reduceOfInt, Int32.reduceToNatClampNeg, i10, i01, Nat.add_left_cancel_iff, Nat.left_eq_add, Nat.add_eq_left, cdX11_isValue, ib0]
    refine ⟨fun c2 => ?_, fun c2 => ?_⟩ <;> simp_all
set_option maxRecDepth 100000 in
set_option maxHeartbeats 400000 in
theorem LX11_aOf {n : Nat} {h : aH} {Q : aQ} {v : Int32} (hq : Q (some (.int (if v = 0 then -100 else v - 1))) n h) : Ok 228 [.int v] n h Q := by
  refine ok_of kMX11_aOf kCX11_aOf (Nat.le_of_ble_eq_true rfl) (fun z => ?_)
  change A z _ _ 0 0 _ 0 [some (.int v)] [] _
  refine go_ok okF0 (C := cdX11_aOf) (by rfl) [] 40 (by exact Nat.le_of_ble_eq_true rfl) ?_
  simp (maxSteps := 2000000) only [go, stp, inS, ↓reduceIte, Bool.false_eq_true, Nat.reduceLT, Nat.reduceEqDiff, Nat.reduceAdd, ldI, ldL, ldA, st1, st2, okS, List.getElem?_cons_zero, List.getElem?_cons_succ, List.length_cons, List.length_nil, List.set_cons_zero, List.set_cons_succ, callP, callF, popN, ct, Value.category, cI, List.getD_cons_zero, List.getD_cons_succ, and_self, and_true, true_and, Nat.zero_le, Nat.reduceLeDiff, Nat.add_zero, Nat.zero_add, List.nil_append, List.cons_append, Option.toList_some, Option.toList_none, List.append_nil, hset_ss, true_or, or_true, eq_self, beq_self_eq_true, List.drop_succ_cons, List.drop_zero, swT, swL, hset_ap, not_true_eq_false, not_false_eq_true, true_implies, false_implies, implies_true, Int32.reduceLE, Int32.reduceLT, Int32.reduceAdd, Int32.reduceSub, Int32.reduceOfInt, Int32.reduceToNatClampNeg, i10, i01, Nat.add_left_cancel_iff, Nat.left_eq_add, Nat.add_eq_left, cdX11_aOf, lc_lt, lc_gt, lc_eq, i_nlt, i_nle, l_nlt, l_nle]
  (repeat' (first | apply And.intro | intro _)) <;> simp_all
set_option maxRecDepth 100000 in
set_option maxHeartbeats 400000 in
theorem LX11_signOf {n : Nat} {h : aH} {Q : aQ} {v : Int32} (hq : Q (some (.int (if v = 0 then 38 else if v = 1 then 124 else if v = 2 then 33 else if v = 3 then 63 else if v = 4 then 60 else if v = 5 then 61 else 62))) n h) : Ok 220 [.int v] n h Q := by
  refine ok_of kMX11_signOf kCX11_signOf (Nat.le_of_ble_eq_true rfl) (fun z => ?_)
  change A z _ _ 0 0 _ 0 [some (.int v)] [] _
  refine go_ok okF0 (C := cdX11_signOf) (by rfl) [] 40 (by exact Nat.le_of_ble_eq_true rfl) ?_
  simp (maxSteps := 2000000) only [go, stp, inS, ↓reduceIte, Bool.false_eq_true, Nat.reduceLT, Nat.reduceEqDiff, Nat.reduceAdd, ldI, ldL, ldA, st1, st2, okS, List.getElem?_cons_zero, List.getElem?_cons_succ, List.length_cons, List.length_nil, List.set_cons_zero, List.set_cons_succ, callP, callF, popN, ct, Value.category, cI, List.getD_cons_zero, List.getD_cons_succ, and_self, and_true, true_and, Nat.zero_le, Nat.reduceLeDiff, Nat.add_zero, Nat.zero_add, List.nil_append, List.cons_append, Option.toList_some, Option.toList_none, List.append_nil, hset_ss, true_or, or_true, eq_self, beq_self_eq_true, List.drop_succ_cons, List.drop_zero, swT, swL, hset_ap, not_true_eq_false, not_false_eq_true, true_implies, false_implies, implies_true, Int32.reduceLE, Int32.reduceLT, Int32.reduceAdd, Int32.reduceSub, Int32.reduceOfInt, Int32.reduceToNatClampNeg, i10, i01, Nat.add_left_cancel_iff, Nat.left_eq_add, Nat.add_eq_left, cdX11_signOf, lc_lt, lc_gt, lc_eq, i_nlt, i_nle, l_nlt, l_nle]
  (repeat' (first | apply And.intro | intro _)) <;> simp_all
set_option maxRecDepth 100000 in
set_option maxHeartbeats 400000 in
theorem LX11_fitted {n : Nat} {h : aH} {Q : aQ} {f : Int32} {v : Int64} (hq : Q (some (.long (if f = 0 then v.toInt32.toInt8.toInt32.toInt64 else if f = 1 then v.toInt32.toInt16.toInt32.toInt64 else if f = 2 then v.toInt32.toInt64 else v))) n h) : Ok 152 [.int f, .long v] n h Q := by
  refine ok_of kMX11_fitted kCX11_fitted (Nat.le_of_ble_eq_true rfl) (fun z => ?_)
  change A z _ _ 0 0 _ 0 [some (.int f), some (.long v), none] [] _
  refine go_ok okF0 (C := cdX11_fitted) (by rfl) [] 40 (by exact Nat.le_of_ble_eq_true rfl) ?_
  simp (maxSteps := 2000000) only [go, stp, inS, ↓reduceIte, Bool.false_eq_true, Nat.reduceLT, Nat.reduceEqDiff, Nat.reduceAdd, ldI, ldL, ldA, st1, st2, okS, List.getElem?_cons_zero, List.getElem?_cons_succ, List.length_cons, List.length_nil, List.set_cons_zero, List.set_cons_succ, callP, callF, popN, ct, Value.category, cI, List.getD_cons_zero, List.getD_cons_succ, and_self, and_true, true_and, Nat.zero_le, Nat.reduceLeDiff, Nat.add_zero, Nat.zero_add, List.nil_append, List.cons_append, Option.toList_some, Option.toList_none, List.append_nil, hset_ss, true_or, or_true, eq_self, beq_self_eq_true, List.drop_succ_cons, List.drop_zero, swT, swL, hset_ap, not_true_eq_false, not_false_eq_true, true_implies, false_implies, implies_true, Int32.reduceLE, Int32.reduceLT, Int32.reduceAdd, Int32.reduceSub, Int32.reduceOfInt, Int32.reduceToNatClampNeg, i10, i01, Nat.add_left_cancel_iff, Nat.left_eq_add, Nat.add_eq_left, cdX11_fitted, lc_lt, lc_gt, lc_eq, i_nlt, i_nle, l_nlt, l_nle]
  (repeat' (first | apply And.intro | intro _)) <;> simp_all
def F1 (x : Nat) (as : List Value) : Option Value :=
  if x = 143 then (match as with
    | [.int v] => some (.int (v &&& 65535))
    | _ => none) else
  if x = 144 then (match as with
    | [.int v] => some (.int ((v.toUInt32 >>> ((16 : Int32).toUInt32 &&& Int32.toUInt32 31)).toInt32))
    | _ => none) else
  if x = 142 then (match as with
    | [.int v, .int w] => some (.int (v ||| (w <<< ((16 : Int32) &&& 31))))
    | _ => none) else
  if x = 132 then (match as with
    | [.int v] => some (.int (if 20 ≤ v ∧ v < 23 then 1 else 0))
    | _ => none) else
  if x = 133 then (match as with
    | [.int v] => some (.int (if -9 ≤ v ∧ v ≤ 9 then 1 else 0))
    | _ => none) else
  if x = 128 then (match as with
    | [.int v] => some (.int (if 0 ≤ v ∧ v < 7 then 1 else 0))
    | _ => none) else
  if x = 129 then (match as with
    | [.int v] => some (.int (if 0 ≤ v ∧ v < 8 then 1 else 0))
    | _ => none) else
  if x = 130 then (match as with
    | [.int v] => some (.int (if 0 ≤ v ∧ v < 4 then 1 else 0))
    | _ => none) else
  if x = 131 then (match as with
    | [.int v] => some (.int (if 1 ≤ v ∧ v ≤ 9 then 1 else 0))
    | _ => none) else
  if x = 127 then (match as with
    | [.long v] => some (.int (if v = -100 ∨ (-9 ≤ v ∧ v ≤ 9) then 1 else 0))
    | _ => none) else
  if x = 83 then (match as with
    | [.int v] => some (.int (if v = 60 ∨ v = 61 ∨ v = 62 then 1 else 0))
    | _ => none) else
  if x = 146 then (match as with
    | [.long v, .long a, .long b] => some (.int (if a ≤ v ∧ v ≤ b then 1 else 0))
    | _ => none) else
  if x = 148 then (match as with
    | [.int v] => some (.int (if 0 ≤ v ∧ v < 4 then 1 else 0))
    | _ => none) else
  if x = 166 then (match as with
    | [.int v] => some (.int (if 0 ≤ v ∧ v < 2 then 1 else 0))
    | _ => none) else
  if x = 211 then (match as with
    | [.int v] => some (.int (if 0 ≤ v ∧ v < 7 then 1 else 0))
    | _ => none) else
  if x = 222 then (match as with
    | [.int v] => some (.int (if 1 ≤ v ∧ v ≤ 9 then 1 else 0))
    | _ => none) else
  if x = 171 then (match as with
    | [.int v] => some (.int (if v = 38 ∨ v = 124 then 1 else 0))
    | _ => none) else
  if x = 172 then (match as with
    | [.int v] => some (.int (if v = 33 ∨ v = 63 then 1 else 0))
    | _ => none) else
  if x = 173 then (match as with
    | [.int v] => some (.int (if v = 60 ∨ v = 61 ∨ v = 62 then 1 else 0))
    | _ => none) else
  if x = 156 then (match as with
    | [.long v] => some (.int (if v = -100 ∨ (-9 ≤ v ∧ v ≤ 9) then 1 else 0))
    | _ => none) else
  if x = 228 then (match as with
    | [.int v] => some (.int (if v = 0 then -100 else v - 1))
    | _ => none) else
  if x = 220 then (match as with
    | [.int v] => some (.int (if v = 0 then 38 else if v = 1 then 124 else if v = 2 then 33 else if v = 3 then 63 else if v = 4 then 60 else if v = 5 then 61 else 62))
    | _ => none) else
  if x = 152 then (match as with
    | [.int f, .long v] => some (.long (if f = 0 then v.toInt32.toInt8.toInt32.toInt64 else if f = 1 then v.toInt32.toInt16.toInt32.toInt64 else if f = 2 then v.toInt32.toInt64 else v))
    | _ => none) else
  none
theorem okF1 : okF F1 := by
  intro x as v h n hh Q hq
  unfold F1 at h
  by_cases hx : x = 143
  · rw [if_pos hx] at h; subst hx
    split at h
    · cases h; exact LX10_yesOf hq
    · cases h
  rw [if_neg hx] at h; clear hx
  by_cases hx : x = 144
  · rw [if_pos hx] at h; subst hx
    split at h
    · cases h; exact LX10_nothingOf hq
    · cases h
  rw [if_neg hx] at h; clear hx
  by_cases hx : x = 142
  · rw [if_pos hx] at h; subst hx
    split at h
    · cases h; exact LX10_verdict hq
    · cases h
  rw [if_neg hx] at h; clear hx
  by_cases hx : x = 132
  · rw [if_pos hx] at h; subst hx
    split at h
    · cases h; exact LX10_isColumn hq
    · cases h
  rw [if_neg hx] at h; clear hx
  by_cases hx : x = 133
  · rw [if_pos hx] at h; subst hx
    split at h
    · cases h; exact LX10_isTold hq
    · cases h
  rw [if_neg hx] at h; clear hx
  by_cases hx : x = 128
  · rw [if_pos hx] at h; subst hx
    split at h
    · cases h; exact LX10_isLaw hq
    · cases h
  rw [if_neg hx] at h; clear hx
  by_cases hx : x = 129
  · rw [if_pos hx] at h; subst hx
    split at h
    · cases h; exact LX10_isRule hq
    · cases h
  rw [if_neg hx] at h; clear hx
  by_cases hx : x = 130
  · rw [if_pos hx] at h; subst hx
    split at h
    · cases h; exact LX10_isForm hq
    · cases h
  rw [if_neg hx] at h; clear hx
  by_cases hx : x = 131
  · rw [if_pos hx] at h; subst hx
    split at h
    · cases h; exact LX10_isRoom hq
    · cases h
  rw [if_neg hx] at h; clear hx
  by_cases hx : x = 127
  · rw [if_pos hx] at h; subst hx
    split at h
    · cases h; exact LX10_mayStand hq
    · cases h
  rw [if_neg hx] at h; clear hx
  by_cases hx : x = 83
  · rw [if_pos hx] at h; subst hx
    split at h
    · cases h; exact LX9_isCompareSign hq
    · cases h
  rw [if_neg hx] at h; clear hx
  by_cases hx : x = 146
  · rw [if_pos hx] at h; subst hx
    split at h
    · cases h; exact LX11_in hq
    · cases h
  rw [if_neg hx] at h; clear hx
  by_cases hx : x = 148
  · rw [if_pos hx] at h; subst hx
    split at h
    · cases h; exact LX11_isSheet hq
    · cases h
  rw [if_neg hx] at h; clear hx
  by_cases hx : x = 166
  · rw [if_pos hx] at h; subst hx
    split at h
    · cases h; exact LX11_isText hq
    · cases h
  rw [if_neg hx] at h; clear hx
  by_cases hx : x = 211
  · rw [if_pos hx] at h; subst hx
    split at h
    · cases h; exact LX11_isLaw hq
    · cases h
  rw [if_neg hx] at h; clear hx
  by_cases hx : x = 222
  · rw [if_pos hx] at h; subst hx
    split at h
    · cases h; exact LX11_isRoom hq
    · cases h
  rw [if_neg hx] at h; clear hx
  by_cases hx : x = 171
  · rw [if_pos hx] at h; subst hx
    split at h
    · cases h; exact LX11_isTwo hq
    · cases h
  rw [if_neg hx] at h; clear hx
  by_cases hx : x = 172
  · rw [if_pos hx] at h; subst hx
    split at h
    · cases h; exact LX11_isOne hq
    · cases h
  rw [if_neg hx] at h; clear hx
  by_cases hx : x = 173
  · rw [if_pos hx] at h; subst hx
    split at h
    · cases h; exact LX11_isThan hq
    · cases h
  rw [if_neg hx] at h; clear hx
  by_cases hx : x = 156
  · rw [if_pos hx] at h; subst hx
    split at h
    · cases h; exact LX11_isValue hq
    · cases h
  rw [if_neg hx] at h; clear hx
  by_cases hx : x = 228
  · rw [if_pos hx] at h; subst hx
    split at h
    · cases h; exact LX11_aOf hq
    · cases h
  rw [if_neg hx] at h; clear hx
  by_cases hx : x = 220
  · rw [if_pos hx] at h; subst hx
    split at h
    · cases h; exact LX11_signOf hq
    · cases h
  rw [if_neg hx] at h; clear hx
  by_cases hx : x = 152
  · rw [if_pos hx] at h; subst hx
    split at h
    · cases h; exact LX11_fitted hq
    · cases h
  rw [if_neg hx] at h; clear hx
  cases h
