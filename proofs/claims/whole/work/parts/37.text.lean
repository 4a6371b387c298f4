
/-! GrownAsks$Text -/
def TxAt (h : aH) (t : Nat) (B G S L R : Nat → Int32) (len ac ot om mi sk : Int32) : Prop :=
  h t = some (.inl (9, [.ref (t + 1), .ref (t + 2), .ref (t + 3), .ref (t + 4), .ref (t + 5), .int len, .int ac, .int ot, .int om, .int mi, .int sk])) ∧ h (t + 1) = some (.inr (40, .inl B)) ∧ h (t + 2) = some (.inr (40, .inl G)) ∧ h (t + 3) = some (.inr (40, .inl S)) ∧ h (t + 4) = some (.inr (40, .inl L)) ∧ h (t + 5) = some (.inr (40, .inl R))
theorem TxAt.kept {h h' : aH} {t : Nat} {B G S L R : Nat → Int32} {len ac ot om mi sk : Int32} (hT : TxAt h t B G S L R len ac ot om mi sk) (hk : ∀ k, t ≤ k → k < t + 6 → h' k = h k) : TxAt h' t B G S L R len ac ot om mi sk := by
  obtain ⟨e0, e1, e2, e3, e4, e5⟩ := hT
  exact ⟨by rw [hk _ (by omega) (by omega)]; exact e0, by rw [hk _ (by omega) (by omega)]; exact e1, by rw [hk _ (by omega) (by omega)]; exact e2, by rw [hk _ (by omega) (by omega)]; exact e3, by rw [hk _ (by omega) (by omega)]; exact e4, by rw [hk _ (by omega) (by omega)]; exact e5⟩
section TX
variable {n : Nat} {h : aH} {Q : aQ} {t : Nat} {B G S L R : Nat → Int32} {len ac ot om mi sk : Int32}
set_option maxRecDepth 100000 in
set_option maxHeartbeats 400000 in
theorem X_byteAt {i : Int32} (hT : TxAt h t B G S L R len ac ot om mi sk) (hq : Q (some (.int (if 0 ≤ i ∧ i < len ∧ i < 40 then B i.toNatClampNeg else -1))) n h) : Ok 70 [.ref t, .int i] n h Q := by
  obtain ⟨e0, e1, -⟩ := hT
  refine ok_of kMX9_byteAt kCX9_byteAt (Nat.le_of_ble_eq_true rfl) (fun z => ?_)
  change A z _ _ 0 0 _ 0 [some (.ref t), some (.int i)] [] _
  refine go_ok okF1 (C := cdX9_byteAt) (by rfl) [] 30 (by exact Nat.le_of_ble_eq_true rfl) ?_
  simp (maxSteps := 2000000) only [go, stp, inS, ↓reduceIte, Bool.false_eq_true, Nat.reduceLT, Nat.reduceEqDiff, Nat.reduceAdd, ldI, ldL, ldA, st1, st2, okS, List.getElem?_cons_zero, List.getElem?_cons_succ, List.length_cons, List.length_nil, List.set_cons_zero, List.set_cons_succ, callP, callF, popN, ct, Value.category, cI, List.getD_cons_zero, List.getD_cons_succ, and_self, and_true, true_and, Nat.zero_le, Nat.reduceLeDiff, Nat.add_zero, Nat.zero_add, List.nil_append, List.cons_append, Option.toList_some, Option.toList_none, List.append_nil, hset_ss, true_or, or_true, eq_self, beq_self_eq_true, List.drop_succ_cons, List.drop_zero, swT, swL, hset_ap, not_true_eq_false, not_false_eq_true, true_implies, false_implies, implies_true, Int32.reduceLE, Int32.reduceLT, Int32.reduceAdd, Int32.reduceSub, Int32.reduceOfInt, Int32.reduceToNatClampNeg, i10, i01, Nat.add_left_cancel_iff, Nat.left_eq_add, Nat.add_eq_left, cdX9_byteAt, F1, e0, e1]
  refine ⟨fun c1 => ?_, fun c1 => ⟨fun c2 => ?_, fun c2 => ⟨fun c3 => ?_, fun c3 => ?_⟩⟩⟩
  · rw [if_neg (fun q => absurd q.1 (i_nle.mpr c1))] at hq; exact hq
  · rw [if_neg (fun q => absurd q.2.1 (i_nlt.mpr c2))] at hq; exact hq
  · rw [if_neg (fun q => absurd q.2.2 (i_nlt.mpr c3))] at hq; exact hq
  · rw [if_pos ⟨i_nlt.mp c1, i_nle.mp c2, i_nle.mp c3⟩] at hq
    refine ⟨?_, hq⟩
    obtain ⟨r, hr, rfl⟩ := i_of (n := 40) (by omega) c1 (i_nle.mp c3)
    exact vp_in_nI (by omega) (by omega)
set_option maxRecDepth 100000 in
set_option maxHeartbeats 400000 in
theorem X_isWhole (hT : TxAt h t B G S L R len ac ot om mi sk) (hq : Q (some (.int (if sk = -1 ∧ ot = 0 ∧ om = 0 then 1 else 0))) n h) : Ok 71 [.ref t] n h Q := by
  obtain ⟨e0, -⟩ := hT
  refine ok_of kMX9_isWhole kCX9_isWhole (Nat.le_of_ble_eq_true rfl) (fun z => ?_)
  change A z _ _ 0 0 _ 0 [some (.ref t)] [] _
  refine go_ok okF1 (C := cdX9_isWhole) (by rfl) [] 30 (by exact Nat.le_of_ble_eq_true rfl) ?_
  simp (maxSteps := 2000000) only [go, stp, inS, ↓reduceIte, Bool.false_eq_true, Nat.reduceLT, Nat.reduceEqDiff, Nat.reduceAdd, ldI, ldL, ldA, st1, st2, okS, List.getElem?_cons_zero, List.getElem?_cons_succ, List.length_cons, List.length_nil, List.set_cons_zero, List.set_cons_succ, callP, callF, popN, ct, Value.category, cI, List.getD_cons_zero, List.getD_cons_succ, and_self, and_true, true_and, Nat.zero_le, Nat.reduceLeDiff, Nat.add_zero, Nat.zero_add, List.nil_append, List.cons_append, Option.toList_some, Option.toList_none, List.append_nil, hset_ss, true_or, or_true, eq_self, beq_self_eq_true, List.drop_succ_cons, List.drop_zero, swT, swL, hset_ap, not_true_eq_false, not_false_eq_true, true_implies, false_implies, implies_true, Int32.reduceLE, Int32.reduceLT, Int32.reduceAdd, Int32.reduceSub, Int32.reduceOfInt, Int32.reduceToNatClampNeg, i10, i01, Nat.add_left_cancel_iff, Nat.left_eq_add, Nat.add_eq_left, cdX9_isWhole, F1, e0]
  exact ⟨fun c => by simpa [c] using hq, fun c => ⟨fun c2 => by simpa [c, c2] using hq, fun c2 => ⟨fun c3 => by simpa [c, c2, c3] using hq, fun c3 => by simpa [c, c2, c3] using hq⟩⟩⟩
set_option maxRecDepth 100000 in
set_option maxHeartbeats 400000 in
theorem X_faultPlace (hT : TxAt h t B G S L R len ac ot om mi sk) (hq : Q (some (.int (if ¬ sk = -1 then sk else if ot = 0 ∧ om = 0 then -1 else len))) n h) : Ok 72 [.ref t] n h Q := by
  have e0 := hT.1
  refine ok_of kMX9_faultPlace kCX9_faultPlace (Nat.le_of_ble_eq_true rfl) (fun z => ?_)
  change A z _ _ 0 0 _ 0 [some (.ref t)] [] _
  refine go_ok okF1 (C := cdX9_faultPlace) (by rfl) [] 30 (by exact Nat.le_of_ble_eq_true rfl) ?_
  simp (maxSteps := 2000000) only [go, stp, inS, ↓reduceIte, Bool.false_eq_true, Nat.reduceLT, Nat.reduceEqDiff, Nat.reduceAdd, ldI, ldL, ldA, st1, st2, okS, List.getElem?_cons_zero, List.getElem?_cons_succ, List.length_cons, List.length_nil, List.set_cons_zero, List.set_cons_succ, callP, callF, popN, ct, Value.category, cI, List.getD_cons_zero, List.getD_cons_succ, and_self, and_true, true_and, Nat.zero_le, Nat.reduceLeDiff, Nat.add_zero, Nat.zero_add, List.nil_append, List.cons_append, Option.toList_some, Option.toList_none, List.append_nil, hset_ss, true_or, or_true, eq_self, beq_self_eq_true, List.drop_succ_cons, List.drop_zero, swT, swL, hset_ap, not_true_eq_false, not_false_eq_true, true_implies, false_implies, implies_true, Int32.reduceLE, Int32.reduceLT, Int32.reduceAdd, Int32.reduceSub, Int32.reduceOfInt, Int32.reduceToNatClampNeg, i10, i01, Nat.add_left_cancel_iff, Nat.left_eq_add, Nat.add_eq_left, cdX9_faultPlace, F1, e0]
  refine ⟨fun c => X_isWhole hT ?_, fun c => by simpa [c] using hq⟩
  refine go_ok okF1 (C := cdX9_faultPlace) (by rfl) [] 30 (by exact Nat.le_of_ble_eq_true rfl) ?_
  simp (maxSteps := 2000000) only [go, stp, inS, ↓reduceIte, Bool.false_eq_true, Nat.reduceLT, Nat.reduceEqDiff, Nat.reduceAdd, ldI, ldL, ldA, st1, st2, okS, List.getElem?_cons_zero, List.getElem?_cons_succ, List.length_cons, List.length_nil, List.set_cons_zero, List.set_cons_succ, callP, callF, popN, ct, Value.category, cI, List.getD_cons_zero, List.getD_cons_succ, and_self, and_true, true_and, Nat.zero_le, Nat.reduceLeDiff, Nat.add_zero, Nat.zero_add, List.nil_append, List.cons_append, Option.toList_some, Option.toList_none, List.append_nil, hset_ss, true_or, or_true, eq_self, beq_self_eq_true, List.drop_succ_cons, List.drop_zero, swT, swL, hset_ap, not_true_eq_false, not_false_eq_true, true_implies, false_implies, implies_true, Int32.reduceLE, Int32.reduceLT, Int32.reduceAdd, Int32.reduceSub, Int32.reduceOfInt, Int32.reduceToNatClampNeg, i10, i01, Nat.add_left_cancel_iff, Nat.left_eq_add, Nat.add_eq_left, cdX9_faultPlace, F1, e0, ib0]
  simp only [c, true_and]
  rw [if_neg (by simp [c])] at hq
  exact ⟨fun c2 => by simpa [c2] using hq, fun c2 => by simpa [Classical.not_not.mp c2] using hq⟩
set_option maxRecDepth 100000 in
set_option maxHeartbeats 400000 in
theorem X_clear (hT : TxAt h t B G S L R len ac ot om mi sk) (hq : ∀ h', TxAt h' t B G S L R 0 0 1 0 0 (-1) → sOff h h' t (t + 6) → Q none n h') : Ok 68 [.ref t] n h Q := by
  obtain ⟨e0, e1, e2, e3, e4, e5⟩ := hT
  refine ok_of kMX9_clear kCX9_clear (Nat.le_of_ble_eq_true rfl) (fun z => ?_)
  change A z _ _ 0 0 _ 0 [some (.ref t)] [] _
  refine go_ok okF1 (C := cdX9_clear) (by rfl) [] 40 (by exact Nat.le_of_ble_eq_true rfl) ?_
  simp (maxSteps := 2000000) only [go, stp, inS, ↓reduceIte, Bool.false_eq_true, Nat.reduceLT, Nat.reduceEqDiff, Nat.reduceAdd, ldI, ldL, ldA, st1, st2, okS, List.getElem?_cons_zero, List.getElem?_cons_succ, List.length_cons, List.length_nil, List.set_cons_zero, List.set_cons_succ, callP, callF, popN, ct, Value.category, cI, List.getD_cons_zero, List.getD_cons_succ, and_self, and_true, true_and, Nat.zero_le, Nat.reduceLeDiff, Nat.add_zero, Nat.zero_add, List.nil_append, List.cons_append, Option.toList_some, Option.toList_none, List.append_nil, hset_ss, true_or, or_true, eq_self, beq_self_eq_true, List.drop_succ_cons, List.drop_zero, swT, swL, hset_ap, not_true_eq_false, not_false_eq_true, true_implies, false_implies, implies_true, Int32.reduceLE, Int32.reduceLT, Int32.reduceAdd, Int32.reduceSub, Int32.reduceOfInt, Int32.reduceToNatClampNeg, i10, i01, Nat.add_left_cancel_iff, Nat.left_eq_add, Nat.add_eq_left, cdX9_clear, F1, e0]
  exact hq _ ⟨by simp [hset_ap], by simp [hset_ap, e1], by simp [hset_ap, e2], by simp [hset_ap, e3], by simp [hset_ap, e4], by simp [hset_ap, e5]⟩ (fun k hk => hset_n _ _ (by omega))
theorem X_at (j : Nat) (i : Int32) (c : Int32) (hj : ∀ v : Int32, (v = if 0 ≤ i ∧ i < ac ∧ i < 40 then c else 0) → Q (some (.int v)) n h) : True := trivial
set_option maxRecDepth 100000 in
set_option maxHeartbeats 400000 in
theorem X_signAt {i : Int32} (hT : TxAt h t B G S L R len ac ot om mi sk) (hq : Q (some (.int (if 0 ≤ i ∧ i < ac ∧ i < 40 then G i.toNatClampNeg else 0))) n h) : Ok 77 [.ref t, .int i] n h Q := by
  obtain ⟨e0, e1, e2, e3, e4, e5⟩ := hT
  refine ok_of kMX9_signAt kCX9_signAt (Nat.le_of_ble_eq_true rfl) (fun z => ?_)
  change A z _ _ 0 0 _ 0 [some (.ref t), some (.int i)] [] _
  refine go_ok okF1 (C := cdX9_signAt) (by rfl) [] 30 (by exact Nat.le_of_ble_eq_true rfl) ?_
  simp (maxSteps := 2000000) only [go, stp, inS, ↓reduceIte, Bool.false_eq_true, Nat.reduceLT, Nat.reduceEqDiff, Nat.reduceAdd, ldI, ldL, ldA, st1, st2, okS, List.getElem?_cons_zero, List.getElem?_cons_succ, List.length_cons, List.length_nil, List.set_cons_zero, List.set_cons_succ, callP, callF, popN, ct, Value.category, cI, List.getD_cons_zero, List.getD_cons_succ, and_self, and_true, true_and, Nat.zero_le, Nat.reduceLeDiff, Nat.add_zero, Nat.zero_add, List.nil_append, List.cons_append, Option.toList_some, Option.toList_none, List.append_nil, hset_ss, true_or, or_true, eq_self, beq_self_eq_true, List.drop_succ_cons, List.drop_zero, swT, swL, hset_ap, not_true_eq_false, not_false_eq_true, true_implies, false_implies, implies_true, Int32.reduceLE, Int32.reduceLT, Int32.reduceAdd, Int32.reduceSub, Int32.reduceOfInt, Int32.reduceToNatClampNeg, i10, i01, Nat.add_left_cancel_iff, Nat.left_eq_add, Nat.add_eq_left, cdX9_signAt, F1, e0, e2]
  refine ⟨fun c1 => ?_, fun c1 => ⟨fun c2 => ?_, fun c2 => ⟨fun c3 => ?_, fun c3 => ?_⟩⟩⟩
  · rw [if_neg (fun q => absurd q.1 (i_nle.mpr c1))] at hq; exact hq
  · rw [if_neg (fun q => absurd q.2.1 (i_nlt.mpr c2))] at hq; exact hq
  · rw [if_neg (fun q => absurd q.2.2 (i_nlt.mpr c3))] at hq; exact hq
  · rw [if_pos ⟨i_nlt.mp c1, i_nle.mp c2, i_nle.mp c3⟩] at hq
    refine ⟨?_, hq⟩
    obtain ⟨r, hr, rfl⟩ := i_of (n := 40) (by omega) c1 (i_nle.mp c3)
    exact vp_in_nI (by omega) (by omega)
set_option maxRecDepth 100000 in
set_option maxHeartbeats 400000 in
theorem X_sizeAt {i : Int32} (hT : TxAt h t B G S L R len ac ot om mi sk) (hq : Q (some (.int (if 0 ≤ i ∧ i < ac ∧ i < 40 then S i.toNatClampNeg else 0))) n h) : Ok 78 [.ref t, .int i] n h Q := by
  obtain ⟨e0, e1, e2, e3, e4, e5⟩ := hT
  refine ok_of kMX9_sizeAt kCX9_sizeAt (Nat.le_of_ble_eq_true rfl) (fun z => ?_)
  change A z _ _ 0 0 _ 0 [some (.ref t), some (.int i)] [] _
  refine go_ok okF1 (C := cdX9_sizeAt) (by rfl) [] 30 (by exact Nat.le_of_ble_eq_true rfl) ?_
  simp (maxSteps := 2000000) only [go, stp, inS, ↓reduceIte, Bool.false_eq_true, Nat.reduceLT, Nat.reduceEqDiff, Nat.reduceAdd, ldI, ldL, ldA, st1, st2, okS, List.getElem?_cons_zero, List.getElem?_cons_succ, List.length_cons, List.length_nil, List.set_cons_zero, List.set_cons_succ, callP, callF, popN, ct, Value.category, cI, List.getD_cons_zero, List.getD_cons_succ, and_self, and_true, true_and, Nat.zero_le, Nat.reduceLeDiff, Nat.add_zero, Nat.zero_add, List.nil_append, List.cons_append, Option.toList_some, Option.toList_none, List.append_nil, hset_ss, true_or, or_true, eq_self, beq_self_eq_true, List.drop_succ_cons, List.drop_zero, swT, swL, hset_ap, not_true_eq_false, not_false_eq_true, true_implies, false_implies, implies_true, Int32.reduceLE, Int32.reduceLT, Int32.reduceAdd, Int32.reduceSub, Int32.reduceOfInt, Int32.reduceToNatClampNeg, i10, i01, Nat.add_left_cancel_iff, Nat.left_eq_add, Nat.add_eq_left, cdX9_sizeAt, F1, e0, e3]
  refine ⟨fun c1 => ?_, fun c1 => ⟨fun c2 => ?_, fun c2 => ⟨fun c3 => ?_, fun c3 => ?_⟩⟩⟩
  · rw [if_neg (fun q => absurd q.1 (i_nle.mpr c1))] at hq; exact hq
  · rw [if_neg (fun q => absurd q.2.1 (i_nlt.mpr c2))] at hq; exact hq
  · rw [if_neg (fun q => absurd q.2.2 (i_nlt.mpr c3))] at hq; exact hq
  · rw [if_pos ⟨i_nlt.mp c1, i_nle.mp c2, i_nle.mp c3⟩] at hq
    refine ⟨?_, hq⟩
    obtain ⟨r, hr, rfl⟩ := i_of (n := 40) (by omega) c1 (i_nle.mp c3)
    exact vp_in_nI (by omega) (by omega)
set_option maxRecDepth 100000 in
set_option maxHeartbeats 400000 in
theorem X_leftAt {i : Int32} (hT : TxAt h t B G S L R len ac ot om mi sk) (hq : Q (some (.int (if 0 ≤ i ∧ i < ac ∧ i < 40 then L i.toNatClampNeg else -100))) n h) : Ok 79 [.ref t, .int i] n h Q := by
  obtain ⟨e0, e1, e2, e3, e4, e5⟩ := hT
  refine ok_of kMX9_leftAt kCX9_leftAt (Nat.le_of_ble_eq_true rfl) (fun z => ?_)
  change A z _ _ 0 0 _ 0 [some (.ref t), some (.int i)] [] _
  refine go_ok okF1 (C := cdX9_leftAt) (by rfl) [] 30 (by exact Nat.le_of_ble_eq_true rfl) ?_
  simp (maxSteps := 2000000) only [go, stp, inS, ↓reduceIte, Bool.false_eq_true, Nat.reduceLT, Nat.reduceEqDiff, Nat.reduceAdd, ldI, ldL, ldA, st1, st2, okS, List.getElem?_cons_zero, List.getElem?_cons_succ, List.length_cons, List.length_nil, List.set_cons_zero, List.set_cons_succ, callP, callF, popN, ct, Value.category, cI, List.getD_cons_zero, List.getD_cons_succ, and_self, and_true, true_and, Nat.zero_le, Nat.reduceLeDiff, Nat.add_zero, Nat.zero_add, List.nil_append, List.cons_append, Option.toList_some, Option.toList_none, List.append_nil, hset_ss, true_or, or_true, eq_self, beq_self_eq_true, List.drop_succ_cons, List.drop_zero, swT, swL, hset_ap, not_true_eq_false, not_false_eq_true, true_implies, false_implies, implies_true, Int32.reduceLE, Int32.reduceLT, Int32.reduceAdd, Int32.reduceSub, Int32.reduceOfInt, Int32.reduceToNatClampNeg, i10, i01, Nat.add_left_cancel_iff, Nat.left_eq_add, Nat.add_eq_left, cdX9_leftAt, F1, e0, e4]
  refine ⟨fun c1 => ?_, fun c1 => ⟨fun c2 => ?_, fun c2 => ⟨fun c3 => ?_, fun c3 => ?_⟩⟩⟩
  · rw [if_neg (fun q => absurd q.1 (i_nle.mpr c1))] at hq; exact hq
  · rw [if_neg (fun q => absurd q.2.1 (i_nlt.mpr c2))] at hq; exact hq
  · rw [if_neg (fun q => absurd q.2.2 (i_nlt.mpr c3))] at hq; exact hq
  · rw [if_pos ⟨i_nlt.mp c1, i_nle.mp c2, i_nle.mp c3⟩] at hq
    refine ⟨?_, hq⟩
    obtain ⟨r, hr, rfl⟩ := i_of (n := 40) (by omega) c1 (i_nle.mp c3)
    exact vp_in_nI (by omega) (by omega)
set_option maxRecDepth 100000 in
set_option maxHeartbeats 400000 in
theorem X_rightAt {i : Int32} (hT : TxAt h t B G S L R len ac ot om mi sk) (hq : Q (some (.int (if 0 ≤ i ∧ i < ac ∧ i < 40 then R i.toNatClampNeg else -100))) n h) : Ok 80 [.ref t, .int i] n h Q := by
  obtain ⟨e0, e1, e2, e3, e4, e5⟩ := hT
  refine ok_of kMX9_rightAt kCX9_rightAt (Nat.le_of_ble_eq_true rfl) (fun z => ?_)
  change A z _ _ 0 0 _ 0 [some (.ref t), some (.int i)] [] _
  refine go_ok okF1 (C := cdX9_rightAt) (by rfl) [] 30 (by exact Nat.le_of_ble_eq_true rfl) ?_
  simp (maxSteps := 2000000) only [go, stp, inS, ↓reduceIte, Bool.false_eq_true, Nat.reduceLT, Nat.reduceEqDiff, Nat.reduceAdd, ldI, ldL, ldA, st1, st2, okS, List.getElem?_cons_zero, List.getElem?_cons_succ, List.length_cons, List.length_nil, List.set_cons_zero, List.set_cons_succ, callP, callF, popN, ct, Value.category, cI, List.getD_cons_zero, List.getD_cons_succ, and_self, and_true, true_and, Nat.zero_le, Nat.reduceLeDiff, Nat.add_zero, Nat.zero_add, List.nil_append, List.cons_append, Option.toList_some, Option.toList_none, List.append_nil, hset_ss, true_or, or_true, eq_self, beq_self_eq_true, List.drop_succ_cons, List.drop_zero, swT, swL, hset_ap, not_true_eq_false, not_false_eq_true, true_implies, false_implies, implies_true, Int32.reduceLE, Int32.reduceLT, Int32.reduceAdd, Int32.reduceSub, Int32.reduceOfInt, Int32.reduceToNatClampNeg, i10, i01, Nat.add_left_cancel_iff, Nat.left_eq_add, Nat.add_eq_left, cdX9_rightAt, F1, e0, e5]
  refine ⟨fun c1 => ?_, fun c1 => ⟨fun c2 => ?_, fun c2 => ⟨fun c3 => ?_, fun c3 => ?_⟩⟩⟩
  · rw [if_neg (fun q => absurd q.1 (i_nle.mpr c1))] at hq; exact hq
  · rw [if_neg (fun q => absurd q.2.1 (i_nlt.mpr c2))] at hq; exact hq
  · rw [if_neg (fun q => absurd q.2.2 (i_nlt.mpr c3))] at hq; exact hq
  · rw [if_pos ⟨i_nlt.mp c1, i_nle.mp c2, i_nle.mp c3⟩] at hq
    refine ⟨?_, hq⟩
    obtain ⟨r, hr, rfl⟩ := i_of (n := 40) (by omega) c1 (i_nle.mp c3)
    exact vp_in_nI (by omega) (by omega)
set_option maxRecDepth 100000 in
set_option maxHeartbeats 400000 in
theorem X_secondOf {i : Int32} (hT : TxAt h t B G S L R len ac ot om mi sk) (hq : Q (some (.int (i + 1 + (if 0 ≤ i + 1 ∧ i + 1 < ac ∧ i + 1 < 40 then S (i + 1).toNatClampNeg else 0)))) n h) : Ok 81 [.ref t, .int i] n h Q := by
  have e0 := hT.1
  refine ok_of kMX9_secondOf kCX9_secondOf (Nat.le_of_ble_eq_true rfl) (fun z => ?_)
  change A z _ _ 0 0 _ 0 [some (.ref t), some (.int i)] [] _
  refine go_ok okF1 (C := cdX9_secondOf) (by rfl) [] 30 (by exact Nat.le_of_ble_eq_true rfl) ?_
  simp (maxSteps := 2000000) only [go, stp, inS, ↓reduceIte, Bool.false_eq_true, Nat.reduceLT, Nat.reduceEqDiff, Nat.reduceAdd, ldI, ldL, ldA, st1, st2, okS, List.getElem?_cons_zero, List.getElem?_cons_succ, List.length_cons, List.length_nil, List.set_cons_zero, List.set_cons_succ, callP, callF, popN, ct, Value.category, cI, List.getD_cons_zero, List.getD_cons_succ, and_self, and_true, true_and, Nat.zero_le, Nat.reduceLeDiff, Nat.add_zero, Nat.zero_add, List.nil_append, List.cons_append, Option.toList_some, Option.toList_none, List.append_nil, hset_ss, true_or, or_true, eq_self, beq_self_eq_true, List.drop_succ_cons, List.drop_zero, swT, swL, hset_ap, not_true_eq_false, not_false_eq_true, true_implies, false_implies, implies_true, Int32.reduceLE, Int32.reduceLT, Int32.reduceAdd, Int32.reduceSub, Int32.reduceOfInt, Int32.reduceToNatClampNeg, i10, i01, Nat.add_left_cancel_iff, Nat.left_eq_add, Nat.add_eq_left, cdX9_secondOf, F1, e0]
  refine X_sizeAt hT ?_
  refine go_ok okF1 (C := cdX9_secondOf) (by rfl) [] 30 (by exact Nat.le_of_ble_eq_true rfl) ?_
  simp (maxSteps := 2000000) only [go, stp, inS, ↓reduceIte, Bool.false_eq_true, Nat.reduceLT, Nat.reduceEqDiff, Nat.reduceAdd, ldI, ldL, ldA, st1, st2, okS, List.getElem?_cons_zero, List.getElem?_cons_succ, List.length_cons, List.length_nil, List.set_cons_zero, List.set_cons_succ, callP, callF, popN, ct, Value.category, cI, List.getD_cons_zero, List.getD_cons_succ, and_self, and_true, true_and, Nat.zero_le, Nat.reduceLeDiff, Nat.add_zero, Nat.zero_add, List.nil_append, List.cons_append, Option.toList_some, Option.toList_none, List.append_nil, hset_ss, true_or, or_true, eq_self, beq_self_eq_true, List.drop_succ_cons, List.drop_zero, swT, swL, hset_ap, not_true_eq_false, not_false_eq_true, true_implies, false_implies, implies_true, Int32.reduceLE, Int32.reduceLT, Int32.reduceAdd, Int32.reduceSub, Int32.reduceOfInt, Int32.reduceToNatClampNeg, i10, i01, Nat.add_left_cancel_iff, Nat.left_eq_add, Nat.add_eq_left, cdX9_secondOf, F1]
  exact hq
set_option maxRecDepth 100000 in
set_option maxHeartbeats 400000 in
theorem X_isCompare {i : Int32} (hT : TxAt h t B G S L R len ac ot om mi sk) (hq : ∀ g, g = (if 0 ≤ i ∧ i < ac ∧ i < 40 then G i.toNatClampNeg else 0) → Q (some (.int (if g = 60 ∨ g = 61 ∨ g = 62 then 1 else 0))) n h) : Ok 82 [.ref t, .int i] n h Q := by
  have e0 := hT.1
  refine ok_of kMX9_isCompare kCX9_isCompare (Nat.le_of_ble_eq_true rfl) (fun z => ?_)
  change A z _ _ 0 0 _ 0 [some (.ref t), some (.int i)] [] _
  refine go_ok okF1 (C := cdX9_isCompare) (by rfl) [] 30 (by exact Nat.le_of_ble_eq_true rfl) ?_
  simp (maxSteps := 2000000) only [go, stp, inS, ↓reduceIte, Bool.false_eq_true, Nat.reduceLT, Nat.reduceEqDiff, Nat.reduceAdd, ldI, ldL, ldA, st1, st2, okS, List.getElem?_cons_zero, List.getElem?_cons_succ, List.length_cons, List.length_nil, List.set_cons_zero, List.set_cons_succ, callP, callF, popN, ct, Value.category, cI, List.getD_cons_zero, List.getD_cons_succ, and_self, and_true, true_and, Nat.zero_le, Nat.reduceLeDiff, Nat.add_zero, Nat.zero_add, List.nil_append, List.cons_append, Option.toList_some, Option.toList_none, List.append_nil, hset_ss, true_or, or_true, eq_self, beq_self_eq_true, List.drop_succ_cons, List.drop_zero, swT, swL, hset_ap, not_true_eq_false, not_false_eq_true, true_implies, false_implies, implies_true, Int32.reduceLE, Int32.reduceLT, Int32.reduceAdd, Int32.reduceSub, Int32.reduceOfInt, Int32.reduceToNatClampNeg, i10, i01, Nat.add_left_cancel_iff, Nat.left_eq_add, Nat.add_eq_left, cdX9_isCompare, F1, e0]
  refine X_signAt hT ?_
  generalize hg : (if 0 ≤ i ∧ i < ac ∧ i < 40 then G i.toNatClampNeg else 0) = g
  refine go_ok okF1 (C := cdX9_isCompare) (by rfl) [] 30 (by exact Nat.le_of_ble_eq_true rfl) ?_
  simp (maxSteps := 2000000) only [go, stp, inS, ↓reduceIte, Bool.false_eq_true, Nat.reduceLT, Nat.reduceEqDiff, Nat.reduceAdd, ldI, ldL, ldA, st1, st2, okS, List.getElem?_cons_zero, List.getElem?_cons_succ, List.length_cons, List.length_nil, List.set_cons_zero, List.set_cons_succ, callP, callF, popN, ct, Value.category, cI, List.getD_cons_zero, List.getD_cons_succ, and_self, and_true, true_and, Nat.zero_le, Nat.reduceLeDiff, Nat.add_zero, Nat.zero_add, List.nil_append, List.cons_append, Option.toList_some, Option.toList_none, List.append_nil, hset_ss, true_or, or_true, eq_self, beq_self_eq_true, List.drop_succ_cons, List.drop_zero, swT, swL, hset_ap, not_true_eq_false, not_false_eq_true, true_implies, false_implies, implies_true, Int32.reduceLE, Int32.reduceLT, Int32.reduceAdd, Int32.reduceSub, Int32.reduceOfInt, Int32.reduceToNatClampNeg, i10, i01, Nat.add_left_cancel_iff, Nat.left_eq_add, Nat.add_eq_left, cdX9_isCompare, F1, ib01]
  exact hq g hg.symm
set_option maxRecDepth 100000 in
set_option maxHeartbeats 400000 in
theorem X_termOf {b : Int32} {mn : Nat} (hmi : mi = nI mn) (hm1 : mn ≤ 1) (hT : TxAt h t B G S L R len ac ot om mi sk) (hq : Q (some (.int (tmO mn b))) n h) : Ok 75 [.ref t, .int b] n h Q := by
  have e0 := hT.1
  subst hmi
  have hm0 : nI mn = 0 ↔ ¬ mn = 1 := by
    rcases (show mn = 0 ∨ mn = 1 by omega) with rfl | rfl <;> simp <;> decide
  refine ok_of kMX9_termOf kCX9_termOf (Nat.le_of_ble_eq_true rfl) (fun z => ?_)
  change A z _ _ 0 0 _ 0 [some (.ref t), some (.int b)] [] _
  refine go_ok okF1 (C := cdX9_termOf) (by rfl) [] 60 (by exact Nat.le_of_ble_eq_true rfl) ?_
  simp (maxSteps := 2000000) only [go, stp, inS, ↓reduceIte, Bool.false_eq_true, Nat.reduceLT, Nat.reduceEqDiff, Nat.reduceAdd, ldI, ldL, ldA, st1, st2, okS, List.getElem?_cons_zero, List.getElem?_cons_succ, List.length_cons, List.length_nil, List.set_cons_zero, List.set_cons_succ, callP, callF, popN, ct, Value.category, cI, List.getD_cons_zero, List.getD_cons_succ, and_self, and_true, true_and, Nat.zero_le, Nat.reduceLeDiff, Nat.add_zero, Nat.zero_add, List.nil_append, List.cons_append, Option.toList_some, Option.toList_none, List.append_nil, hset_ss, true_or, or_true, eq_self, beq_self_eq_true, List.drop_succ_cons, List.drop_zero, swT, swL, hset_ap, not_true_eq_false, not_false_eq_true, true_implies, false_implies, implies_true, Int32.reduceLE, Int32.reduceLT, Int32.reduceAdd, Int32.reduceSub, Int32.reduceOfInt, Int32.reduceToNatClampNeg, i10, i01, Nat.add_left_cancel_iff, Nat.left_eq_add, Nat.add_eq_left, cdX9_termOf, F1, e0, hm0]
  unfold tmO at hq
  refine ⟨fun c1 => ?_, fun c1 => ⟨fun c2 => ?_, fun c2 => ?_⟩⟩
  · rw [if_neg (fun q => absurd q.1 (i_nle.mpr c1))] at hq
    refine ⟨fun c3 => ?_, fun c3 => ?_⟩
    · rw [if_neg c3] at hq
      refine ⟨fun c4 => ?_, fun c4 => ⟨fun c5 => ?_, fun c5 => ?_⟩⟩
      · rw [if_neg (fun q => absurd q.1 (i_nle.mpr c4))] at hq
        exact ⟨fun c6 => by rw [if_neg c6] at hq; exact hq, fun c6 => by rw [if_pos c6] at hq; exact hq⟩
      · rw [if_neg (fun q => absurd q.2 (i_nle.mpr c5))] at hq
        exact ⟨fun c6 => by rw [if_neg c6] at hq; exact hq, fun c6 => by rw [if_pos c6] at hq; exact hq⟩
      · rw [if_pos ⟨i_nlt.mp c4, i_nlt.mp c5⟩] at hq; exact hq
    · rw [if_pos (Classical.not_not.mp c3)] at hq; exact hq
  · rw [if_neg (fun q => absurd q.2 (i_nle.mpr c2))] at hq
    refine ⟨fun c3 => ?_, fun c3 => ?_⟩
    · rw [if_neg c3] at hq
      refine ⟨fun c4 => ?_, fun c4 => ⟨fun c5 => ?_, fun c5 => ?_⟩⟩
      · rw [if_neg (fun q => absurd q.1 (i_nle.mpr c4))] at hq
        exact ⟨fun c6 => by rw [if_neg c6] at hq; exact hq, fun c6 => by rw [if_pos c6] at hq; exact hq⟩
      · rw [if_neg (fun q => absurd q.2 (i_nle.mpr c5))] at hq
        exact ⟨fun c6 => by rw [if_neg c6] at hq; exact hq, fun c6 => by rw [if_pos c6] at hq; exact hq⟩
      · rw [if_pos ⟨i_nlt.mp c4, i_nlt.mp c5⟩] at hq; exact hq
    · rw [if_pos (Classical.not_not.mp c3)] at hq; exact hq
  · rw [if_pos ⟨i_nlt.mp c1, i_nlt.mp c2⟩] at hq
    exact ⟨fun c3 => by rw [if_neg c3] at hq; exact hq, fun c3 => by rw [if_pos (Classical.not_not.mp c3)] at hq; exact hq⟩
end TX
