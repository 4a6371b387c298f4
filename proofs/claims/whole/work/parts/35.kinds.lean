
def bcE (x : Int32) : Int32 :=
  let u : Int32 → Int32 → Int32 := fun a b => (a.toUInt32 >>> (b.toUInt32 &&& Int32.toUInt32 31)).toInt32
  let a := x - (u x 1 &&& 1431655765)
  let b := (a &&& 858993459) + (u a 2 &&& 858993459)
  let c := (b + u b 4) &&& 252645135
  let d := c + u c 8
  let e := d + u d 16
  e &&& 63
set_option maxRecDepth 100000 in
set_option maxHeartbeats 400000 in
theorem T_bitCount {n : Nat} {h : aH} {Q : aQ} {x : Int32} (hq : Q (some (.int (bcE x))) n h) : Ok 242 [.int x] n h Q := by
  refine ok_of kMJ6_bitCount_0f7a4 kCJ6_bitCount_0f7a4 (Nat.le_of_ble_eq_true rfl) (fun z => ?_)
  change A z _ _ 0 0 _ 0 [some (.int x)] [] _
  refine go_ok okF1 (C := cdJ6_bitCount_0f7a4) (by rfl) [] 60 (by exact Nat.le_of_ble_eq_true rfl) ?_
  simp (maxSteps := 2000000) only [go, stp, inS, ↓reduceIte, Bool.false_eq_true, Nat.reduceLT, Nat.reduceEqDiff, Nat.reduceAdd, ldI, ldL, ldA, st1, st2, okS, List.getElem?_cons_zero, List.getElem?_cons_succ, List.length_cons, List.length_nil, List.set_cons_zero, List.set_cons_succ, callP, callF, popN, ct, Value.category, cI, List.getD_cons_zero, List.getD_cons_succ, and_self, and_true, true_and, Nat.zero_le, Nat.reduceLeDiff, Nat.add_zero, Nat.zero_add, List.nil_append, List.cons_append, Option.toList_some, Option.toList_none, List.append_nil, hset_ss, true_or, or_true, eq_self, beq_self_eq_true, List.drop_succ_cons, List.drop_zero, swT, swL, hset_ap, not_true_eq_false, not_false_eq_true, true_implies, false_implies, implies_true, Int32.reduceLE, Int32.reduceLT, Int32.reduceAdd, Int32.reduceSub, Int32.reduceOfInt, Int32.reduceToNatClampNeg, i10, i01, Nat.add_left_cancel_iff, Nat.left_eq_add, Nat.add_eq_left, cdJ6_bitCount_0f7a4, F1]
  exact hq
-- the place of a value among the kinds
def kdN (v : Int32) : Int32 := if v = -100 then 0 else v - (-9) + 1
def kuF (f : Nat → Int32) (s : Int32) (c : Nat) : Nat → Int32
  | 0 => 0
  | r + 1 => kuF f s c r ||| (if bt s r = true then (1 : Int32) <<< (kdN (f (r * 3 + c)) &&& 31) else 0)
theorem kuF_rest {f : Nat → Int32} {s : Int32} {c r : Nat} (h : ∀ i, r ≤ i → bt s i = false) : ∀ m, kuF f s c (r + m) = kuF f s c r
  | 0 => rfl
  | m + 1 => by rw [← Nat.add_assoc, kuF, kuF_rest h m, h (r + m) (by omega)]; simp
set_option maxRecDepth 100000 in
set_option maxHeartbeats 400000 in
theorem T_kinds {n : Nat} {h : aH} {Q : aQ} {t most : Nat} {f sE : Nat → Int32} {nr c : Nat} {s : Int32} (hT : TbAt h t most f sE nr) (h1 : nr ≤ most) (h2 : most ≤ 12) (hc : c < 3)
    (hq : Q (some (.int (bcE (kuF f s c nr)))) n h) : Ok 66 [.ref t, .int s, .int (nI c)] n h Q := by
  refine ok_of kMX8_kinds kCX8_kinds (Nat.le_of_ble_eq_true rfl) (fun z => ?_)
  change A z _ _ 0 0 _ 0 [some (.ref t), some (.int s), some (.int (nI c)), none, none, none] [] _
  refine go_ok okF1 (C := cdX8_kinds) (by rfl) [5] 20 (by exact Nat.le_of_ble_eq_true rfl) ?_
  simp (maxSteps := 2000000) only [go, stp, inS, ↓reduceIte, Bool.false_eq_true, Nat.reduceLT, Nat.reduceEqDiff, Nat.reduceAdd, ldI, ldL, ldA, st1, st2, okS, List.getElem?_cons_zero, List.getElem?_cons_succ, List.length_cons, List.length_nil, List.set_cons_zero, List.set_cons_succ, callP, callF, popN, ct, Value.category, cI, List.getD_cons_zero, List.getD_cons_succ, and_self, and_true, true_and, Nat.zero_le, Nat.reduceLeDiff, Nat.add_zero, Nat.zero_add, List.nil_append, List.cons_append, Option.toList_some, Option.toList_none, List.append_nil, hset_ss, true_or, or_true, eq_self, beq_self_eq_true, List.drop_succ_cons, List.drop_zero, swT, swL, hset_ap, not_true_eq_false, not_false_eq_true, true_implies, false_implies, implies_true, Int32.reduceLE, Int32.reduceLT, Int32.reduceAdd, Int32.reduceSub, Int32.reduceOfInt, Int32.reduceToNatClampNeg, i10, i01, Nat.add_left_cancel_iff, Nat.left_eq_add, Nat.add_eq_left, cdX8_kinds, F1, hT.1]
  have loop : ∀ m r (g : Option Value), nr - r = m → r ≤ nr → A z 66 n 0 0 h 5 [some (.ref t), some (.int s), some (.int (nI c)), some (.int (kuF f s c r)), some (.int (nI r)), g] [] Q := by
    intro m
    induction m with
    | zero =>
      intro r g hm hr
      have : r = nr := by omega
      subst this
      refine go_ok okF1 (C := cdX8_kinds) (by rfl) [5] 40 (by exact Nat.le_of_ble_eq_true rfl) ?_
      simp (maxSteps := 2000000) only [go, stp, inS, ↓reduceIte, Bool.false_eq_true, Nat.reduceLT, Nat.reduceEqDiff, Nat.reduceAdd, ldI, ldL, ldA, st1, st2, okS, List.getElem?_cons_zero, List.getElem?_cons_succ, List.length_cons, List.length_nil, List.set_cons_zero, List.set_cons_succ, callP, callF, popN, ct, Value.category, cI, List.getD_cons_zero, List.getD_cons_succ, and_self, and_true, true_and, Nat.zero_le, Nat.reduceLeDiff, Nat.add_zero, Nat.zero_add, List.nil_append, List.cons_append, Option.toList_some, Option.toList_none, List.append_nil, hset_ss, true_or, or_true, eq_self, beq_self_eq_true, List.drop_succ_cons, List.drop_zero, swT, swL, hset_ap, not_true_eq_false, not_false_eq_true, true_implies, false_implies, implies_true, Int32.reduceLE, Int32.reduceLT, Int32.reduceAdd, Int32.reduceSub, Int32.reduceOfInt, Int32.reduceToNatClampNeg, i10, i01, Nat.add_left_cancel_iff, Nat.left_eq_add, Nat.add_eq_left, cdX8_kinds, F1, hT.1, hT.2.2]
      refine ⟨fun _ => ?_, fun c => absurd ((i_le (by omega) (by omega)).mpr (Nat.le_refl _)) c⟩
      refine T_bitCount ?_
      refine go_ok okF1 (C := cdX8_kinds) (by rfl) [5] 40 (by exact Nat.le_of_ble_eq_true rfl) ?_
      simp (maxSteps := 2000000) only [go, stp, inS, ↓reduceIte, Bool.false_eq_true, Nat.reduceLT, Nat.reduceEqDiff, Nat.reduceAdd, ldI, ldL, ldA, st1, st2, okS, List.getElem?_cons_zero, List.getElem?_cons_succ, List.length_cons, List.length_nil, List.set_cons_zero, List.set_cons_succ, callP, callF, popN, ct, Value.category, cI, List.getD_cons_zero, List.getD_cons_succ, and_self, and_true, true_and, Nat.zero_le, Nat.reduceLeDiff, Nat.add_zero, Nat.zero_add, List.nil_append, List.cons_append, Option.toList_some, Option.toList_none, List.append_nil, hset_ss, true_or, or_true, eq_self, beq_self_eq_true, List.drop_succ_cons, List.drop_zero, swT, swL, hset_ap, not_true_eq_false, not_false_eq_true, true_implies, false_implies, implies_true, Int32.reduceLE, Int32.reduceLT, Int32.reduceAdd, Int32.reduceSub, Int32.reduceOfInt, Int32.reduceToNatClampNeg, i10, i01, Nat.add_left_cancel_iff, Nat.left_eq_add, Nat.add_eq_left, cdX8_kinds, F1]
      exact hq
    | succ m ih =>
      intro r g hm hr
      have hlt : r < nr := by omega
      have h3 := fun g => ih (r + 1) g (by omega) (by omega)
      simp only [kuF] at h3
      refine go_ok okF1 (C := cdX8_kinds) (by rfl) [5] 40 (by exact Nat.le_of_ble_eq_true rfl) ?_
      simp (maxSteps := 2000000) only [go, stp, inS, ↓reduceIte, Bool.false_eq_true, Nat.reduceLT, Nat.reduceEqDiff, Nat.reduceAdd, ldI, ldL, ldA, st1, st2, okS, List.getElem?_cons_zero, List.getElem?_cons_succ, List.length_cons, List.length_nil, List.set_cons_zero, List.set_cons_succ, callP, callF, popN, ct, Value.category, cI, List.getD_cons_zero, List.getD_cons_succ, and_self, and_true, true_and, Nat.zero_le, Nat.reduceLeDiff, Nat.add_zero, Nat.zero_add, List.nil_append, List.cons_append, Option.toList_some, Option.toList_none, List.append_nil, hset_ss, true_or, or_true, eq_self, beq_self_eq_true, List.drop_succ_cons, List.drop_zero, swT, swL, hset_ap, not_true_eq_false, not_false_eq_true, true_implies, false_implies, implies_true, Int32.reduceLE, Int32.reduceLT, Int32.reduceAdd, Int32.reduceSub, Int32.reduceOfInt, Int32.reduceToNatClampNeg, i10, i01, Nat.add_left_cancel_iff, Nat.left_eq_add, Nat.add_eq_left, cdX8_kinds, F1, hT.1, hT.2.2]
      refine ⟨fun c => absurd ((i_le (by omega) (by omega)).mp c) (by omega), fun _ => ⟨fun c0 => ?_, fun _ => ?_⟩⟩
      · refine T_bitCount ?_
        refine go_ok okF1 (C := cdX8_kinds) (by rfl) [5] 40 (by exact Nat.le_of_ble_eq_true rfl) ?_
        simp (maxSteps := 2000000) only [go, stp, inS, ↓reduceIte, Bool.false_eq_true, Nat.reduceLT, Nat.reduceEqDiff, Nat.reduceAdd, ldI, ldL, ldA, st1, st2, okS, List.getElem?_cons_zero, List.getElem?_cons_succ, List.length_cons, List.length_nil, List.set_cons_zero, List.set_cons_succ, callP, callF, popN, ct, Value.category, cI, List.getD_cons_zero, List.getD_cons_succ, and_self, and_true, true_and, Nat.zero_le, Nat.reduceLeDiff, Nat.add_zero, Nat.zero_add, List.nil_append, List.cons_append, Option.toList_some, Option.toList_none, List.append_nil, hset_ss, true_or, or_true, eq_self, beq_self_eq_true, List.drop_succ_cons, List.drop_zero, swT, swL, hset_ap, not_true_eq_false, not_false_eq_true, true_implies, false_implies, implies_true, Int32.reduceLE, Int32.reduceLT, Int32.reduceAdd, Int32.reduceSub, Int32.reduceOfInt, Int32.reduceToNatClampNeg, i10, i01, Nat.add_left_cancel_iff, Nat.left_eq_add, Nat.add_eq_left, cdX8_kinds, F1]
        have := kuF_rest (f := f) (c := c) (fun i hi => b_rest s (show r < 32 by omega) c0 hi) (nr - r)
        rw [show r + (nr - r) = nr by omega] at this
        rw [← this]; exact hq
      · rw [b_ask0 s (show r < 32 by omega), nI_1]
        refine ⟨fun c1 => ?_, fun c1 => ?_⟩
        · simp only [c1] at h3
          simpa using h3 g
        · have c2 : bt s r = true := by simpa using c1
          simp only [c2, if_true] at h3
          refine T_cell hT h1 h2 ?_
          rw [cS_in (by omega) hlt hc]
          refine go_ok okF1 (C := cdX8_kinds) (by rfl) [5] 40 (by exact Nat.le_of_ble_eq_true rfl) ?_
          simp (maxSteps := 2000000) only [go, stp, inS, ↓reduceIte, Bool.false_eq_true, Nat.reduceLT, Nat.reduceEqDiff, Nat.reduceAdd, ldI, ldL, ldA, st1, st2, okS, List.getElem?_cons_zero, List.getElem?_cons_succ, List.length_cons, List.length_nil, List.set_cons_zero, List.set_cons_succ, callP, callF, popN, ct, Value.category, cI, List.getD_cons_zero, List.getD_cons_succ, and_self, and_true, true_and, Nat.zero_le, Nat.reduceLeDiff, Nat.add_zero, Nat.zero_add, List.nil_append, List.cons_append, Option.toList_some, Option.toList_none, List.append_nil, hset_ss, true_or, or_true, eq_self, beq_self_eq_true, List.drop_succ_cons, List.drop_zero, swT, swL, hset_ap, not_true_eq_false, not_false_eq_true, true_implies, false_implies, implies_true, Int32.reduceLE, Int32.reduceLT, Int32.reduceAdd, Int32.reduceSub, Int32.reduceOfInt, Int32.reduceToNatClampNeg, i10, i01, Nat.add_left_cancel_iff, Nat.left_eq_add, Nat.add_eq_left, cdX8_kinds, F1]
          rw [nI_1]
          unfold kdN at h3
          refine ⟨fun c3 => ?_, fun c3 => ?_⟩
          · simp only [if_neg c3] at h3; exact h3 _
          · simp only [if_pos c3] at h3; exact h3 _
  exact loop nr 0 none (by omega) (Nat.zero_le _)
