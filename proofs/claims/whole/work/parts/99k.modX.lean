
/-! the model: learn -/
def rowS (p : Nat → Nat → Bool) (a : Nat) : Nat → Nat
  | 0 => 0
  | j + 1 => rowS p a j + b2n (p a (a + 1 + j))
def pr2 (p : Nat → Nat → Bool) : Nat → Nat
  | 0 => 0
  | a + 1 => pr2 p a + rowS p a (7 - a)
theorem pr2_eq (p : Nat → Nat → Bool) : pr2 p 8 = prT p := by
  simp only [pr2, rowS, prT, Nat.reduceSub, Nat.reduceAdd]
  omega
theorem rowS_le (p : Nat → Nat → Bool) (a : Nat) : ∀ j, rowS p a j ≤ j
  | 0 => Nat.le_refl _
  | j + 1 => by rw [rowS]; have := rowS_le p a j; have := b2n_le (p a (a + 1 + j)); omega
section MX2
variable {n : Nat} {h : aH} {Q : aQ} {M : MS} {c : Nat → Int32} {a : Nat → Nat → Int32} {l : Nat → Nat → Int64} {s : pT} {x : Int32}
set_option maxRecDepth 100000 in
set_option maxHeartbeats 400000 in
theorem D_newPairs (m : MH h c a l) (hp : ∀ b, b < 8 → a 40 b = M.P b) (hq : Q (some (.int (nI (prT (fun i j => bt (npF M.P x i) j))))) n h) : Ok 224 [.ref 52, .int x] n h Q := by
  rw [← pr2_eq] at hq
  generalize hpp : (fun i j => bt (npF M.P x i) j) = p at hq
  have pe : ∀ i j, i < 8 → j < 8 → i < j → p i j = (bt x i && (bt x j && !bt (M.P i) j)) := fun i j hi hj hij => by
    rw [← hpp]
    dsimp only
    rw [b_np hi (by omega)]
    simp [show ¬ j = i by omega]
  refine ok_of kMX11_newPairs kCX11_newPairs (Nat.le_of_ble_eq_true rfl) (fun z => ?_)
  change A z _ _ 0 0 _ 0 [some (.ref 52), some (.int x), none, none, none] [] _
  refine go_ok okF1 (C := cdX11_newPairs) (by rfl) [4] 40 (by exact Nat.le_of_ble_eq_true rfl) ?_
  simp (maxSteps := 2000000) only [go, stp, inS, ↓reduceIte, Bool.false_eq_true, Nat.reduceLT, Nat.reduceEqDiff, Nat.reduceAdd, ldI, ldL, ldA, st1, st2, okS, List.getElem?_cons_zero, List.getElem?_cons_succ, List.length_cons, List.length_nil, List.set_cons_zero, List.set_cons_succ, callP, callF, popN, ct, Value.category, cI, List.getD_cons_zero, List.getD_cons_succ, and_self, and_true, true_and, Nat.zero_le, Nat.reduceLeDiff, Nat.add_zero, Nat.zero_add, List.nil_append, List.cons_append, Option.toList_some, Option.toList_none, List.append_nil, hset_ss, true_or, or_true, eq_self, beq_self_eq_true, List.drop_succ_cons, List.drop_zero, swT, swL, hset_ap, not_true_eq_false, not_false_eq_true, true_implies, false_implies, implies_true, Int32.reduceLE, Int32.reduceLT, Int32.reduceAdd, Int32.reduceSub, Int32.reduceOfInt, Int32.reduceToNatClampNeg, i10, i01, Nat.add_left_cancel_iff, Nat.left_eq_add, Nat.add_eq_left, cdX11_newPairs, F1]
  have outer : ∀ w i o4, i + w = 8 → A z 224 n 0 0 h 4 [some (.ref 52), some (.int x), some (.int (nI (pr2 p i))), some (.int (nI i)), o4] [] Q := by
    intro w
    induction w with
    | zero =>
      intro i o4 hw
      obtain rfl : i = 8 := by omega
      refine go_ok okF1 (C := cdX11_newPairs) (by rfl) [] 40 (by exact Nat.le_of_ble_eq_true rfl) ?_
      simp (maxSteps := 2000000) only [go, stp, inS, ↓reduceIte, Bool.false_eq_true, Nat.reduceLT, Nat.reduceEqDiff, Nat.reduceAdd, ldI, ldL, ldA, st1, st2, okS, List.getElem?_cons_zero, List.getElem?_cons_succ, List.length_cons, List.length_nil, List.set_cons_zero, List.set_cons_succ, callP, callF, popN, ct, Value.category, cI, List.getD_cons_zero, List.getD_cons_succ, and_self, and_true, true_and, Nat.zero_le, Nat.reduceLeDiff, Nat.add_zero, Nat.zero_add, List.nil_append, List.cons_append, Option.toList_some, Option.toList_none, List.append_nil, hset_ss, true_or, or_true, eq_self, beq_self_eq_true, List.drop_succ_cons, List.drop_zero, swT, swL, hset_ap, not_true_eq_false, not_false_eq_true, true_implies, false_implies, implies_true, Int32.reduceLE, Int32.reduceLT, Int32.reduceAdd, Int32.reduceSub, Int32.reduceOfInt, Int32.reduceToNatClampNeg, i10, i01, Nat.add_left_cancel_iff, Nat.left_eq_add, Nat.add_eq_left, cdX11_newPairs, F1, (show (8 : Int32) ≤ nI 8 by decide)]
      exact hq
    | succ w ih =>
      intro i o4 hw
      have e : ¬ 8 ≤ nI i := by rw [show (8 : Int32) = nI 8 from rfl, i_le (by omega) (by omega)]; omega
      refine go_ok okF1 (C := cdX11_newPairs) (by rfl) [15] 40 (by exact Nat.le_of_ble_eq_true rfl) ?_
      simp (maxSteps := 2000000) only [go, stp, inS, ↓reduceIte, Bool.false_eq_true, Nat.reduceLT, Nat.reduceEqDiff, Nat.reduceAdd, ldI, ldL, ldA, st1, st2, okS, List.getElem?_cons_zero, List.getElem?_cons_succ, List.length_cons, List.length_nil, List.set_cons_zero, List.set_cons_succ, callP, callF, popN, ct, Value.category, cI, List.getD_cons_zero, List.getD_cons_succ, and_self, and_true, true_and, Nat.zero_le, Nat.reduceLeDiff, Nat.add_zero, Nat.zero_add, List.nil_append, List.cons_append, Option.toList_some, Option.toList_none, List.append_nil, hset_ss, true_or, or_true, eq_self, beq_self_eq_true, List.drop_succ_cons, List.drop_zero, swT, swL, hset_ap, not_true_eq_false, not_false_eq_true, true_implies, false_implies, implies_true, Int32.reduceLE, Int32.reduceLT, Int32.reduceAdd, Int32.reduceSub, Int32.reduceOfInt, Int32.reduceToNatClampNeg, i10, i01, Nat.add_left_cancel_iff, Nat.left_eq_add, Nat.add_eq_left, cdX11_newPairs, F1, e, nI_1]
      have inner : ∀ u j, j + u = 7 - i → A z 224 n 0 0 h 15 [some (.ref 52), some (.int x), some (.int (nI (pr2 p i + rowS p i j))), some (.int (nI i)), some (.int (nI (i + 1 + j)))] [] Q := by
        intro u
        induction u with
        | zero =>
          intro j hj
          have nx := ih (i + 1) (some (.int (nI (i + 1 + j)))) (by omega)
          rw [pr2, show 7 - i = j by omega] at nx
          refine go_ok okF1 (C := cdX11_newPairs) (by rfl) [4] 40 (by exact Nat.le_of_ble_eq_true rfl) ?_
          simp (maxSteps := 2000000) only [go, stp, inS, ↓reduceIte, Bool.false_eq_true, Nat.reduceLT, Nat.reduceEqDiff, Nat.reduceAdd, ldI, ldL, ldA, st1, st2, okS, List.getElem?_cons_zero, List.getElem?_cons_succ, List.length_cons, List.length_nil, List.set_cons_zero, List.set_cons_succ, callP, callF, popN, ct, Value.category, cI, List.getD_cons_zero, List.getD_cons_succ, and_self, and_true, true_and, Nat.zero_le, Nat.reduceLeDiff, Nat.add_zero, Nat.zero_add, List.nil_append, List.cons_append, Option.toList_some, Option.toList_none, List.append_nil, hset_ss, true_or, or_true, eq_self, beq_self_eq_true, List.drop_succ_cons, List.drop_zero, swT, swL, hset_ap, not_true_eq_false, not_false_eq_true, true_implies, false_implies, implies_true, Int32.reduceLE, Int32.reduceLT, Int32.reduceAdd, Int32.reduceSub, Int32.reduceOfInt, Int32.reduceToNatClampNeg, i10, i01, Nat.add_left_cancel_iff, Nat.left_eq_add, Nat.add_eq_left, cdX11_newPairs, F1, (show (8 : Int32) ≤ nI (i + 1 + j) from by rw [show (8 : Int32) = nI 8 from rfl, i_le (by omega) (by omega)]; omega), nI_1]
          exact nx
        | succ u ihu =>
          intro j hj
          have e2 : ¬ 8 ≤ nI (i + 1 + j) := by rw [show (8 : Int32) = nI 8 from rfl, i_le (by omega) (by omega)]; omega
          have nx := ihu (j + 1) (by omega)
          rw [rowS, pe i (i + 1 + j) (by omega) (by omega) (by omega)] at nx
          cases b1 : bt x i with
          | false =>
            rw [b1] at nx
            refine go_ok okF1 (C := cdX11_newPairs) (by rfl) [15] 40 (by exact Nat.le_of_ble_eq_true rfl) ?_
            simp (maxSteps := 2000000) only [go, stp, inS, ↓reduceIte, Bool.false_eq_true, Nat.reduceLT, Nat.reduceEqDiff, Nat.reduceAdd, ldI, ldL, ldA, st1, st2, okS, List.getElem?_cons_zero, List.getElem?_cons_succ, List.length_cons, List.length_nil, List.set_cons_zero, List.set_cons_succ, callP, callF, popN, ct, Value.category, cI, List.getD_cons_zero, List.getD_cons_succ, and_self, and_true, true_and, Nat.zero_le, Nat.reduceLeDiff, Nat.add_zero, Nat.zero_add, List.nil_append, List.cons_append, Option.toList_some, Option.toList_none, List.append_nil, hset_ss, true_or, or_true, eq_self, beq_self_eq_true, List.drop_succ_cons, List.drop_zero, swT, swL, hset_ap, not_true_eq_false, not_false_eq_true, true_implies, false_implies, implies_true, Int32.reduceLE, Int32.reduceLT, Int32.reduceAdd, Int32.reduceSub, Int32.reduceOfInt, Int32.reduceToNatClampNeg, i10, i01, Nat.add_left_cancel_iff, Nat.left_eq_add, Nat.add_eq_left, cdX11_newPairs, F1, e2, b_ask _ (show i < 32 by omega), b1, nI_1, Int32.add_zero]
            exact nx
          | true =>
            cases b2 : bt x (i + 1 + j) with
            | false =>
              rw [b1, b2] at nx
              refine go_ok okF1 (C := cdX11_newPairs) (by rfl) [15] 40 (by exact Nat.le_of_ble_eq_true rfl) ?_
              simp (maxSteps := 2000000) only [go, stp, inS, ↓reduceIte, Bool.false_eq_true, Nat.reduceLT, Nat.reduceEqDiff, Nat.reduceAdd, ldI, ldL, ldA, st1, st2, okS, List.getElem?_cons_zero, List.getElem?_cons_succ, List.length_cons, List.length_nil, List.set_cons_zero, List.set_cons_succ, callP, callF, popN, ct, Value.category, cI, List.getD_cons_zero, List.getD_cons_succ, and_self, and_true, true_and, Nat.zero_le, Nat.reduceLeDiff, Nat.add_zero, Nat.zero_add, List.nil_append, List.cons_append, Option.toList_some, Option.toList_none, List.append_nil, hset_ss, true_or, or_true, eq_self, beq_self_eq_true, List.drop_succ_cons, List.drop_zero, swT, swL, hset_ap, not_true_eq_false, not_false_eq_true, true_implies, false_implies, implies_true, Int32.reduceLE, Int32.reduceLT, Int32.reduceAdd, Int32.reduceSub, Int32.reduceOfInt, Int32.reduceToNatClampNeg, i10, i01, Nat.add_left_cancel_iff, Nat.left_eq_add, Nat.add_eq_left, cdX11_newPairs, F1, e2, b_ask _ (show i < 32 by omega), b_ask _ (show i + 1 + j < 32 by omega), b1, b2, nI_1, Int32.add_zero]
              exact nx
            | true =>
              cases b3 : bt (M.P i) (i + 1 + j) with
              | true =>
                rw [b1, b2, b3] at nx
                refine go_ok okF1 (C := cdX11_newPairs) (by rfl) [15] 40 (by exact Nat.le_of_ble_eq_true rfl) ?_
                simp (maxSteps := 2000000) only [go, stp, inS, ↓reduceIte, Bool.false_eq_true, Nat.reduceLT, Nat.reduceEqDiff, Nat.reduceAdd, ldI, ldL, ldA, st1, st2, okS, List.getElem?_cons_zero, List.getElem?_cons_succ, List.length_cons, List.length_nil, List.set_cons_zero, List.set_cons_succ, callP, callF, popN, ct, Value.category, cI, List.getD_cons_zero, List.getD_cons_succ, and_self, and_true, true_and, Nat.zero_le, Nat.reduceLeDiff, Nat.add_zero, Nat.zero_add, List.nil_append, List.cons_append, Option.toList_some, Option.toList_none, List.append_nil, hset_ss, true_or, or_true, eq_self, beq_self_eq_true, List.drop_succ_cons, List.drop_zero, swT, swL, hset_ap, not_true_eq_false, not_false_eq_true, true_implies, false_implies, implies_true, Int32.reduceLE, Int32.reduceLT, Int32.reduceAdd, Int32.reduceSub, Int32.reduceOfInt, Int32.reduceToNatClampNeg, i10, i01, Nat.add_left_cancel_iff, Nat.left_eq_add, Nat.add_eq_left, cdX11_newPairs, F1, e2, b_ask _ (show i < 32 by omega), b_ask _ (show i + 1 + j < 32 by omega), b1, b2, m.o, m.a40, i_cl (show i < 2147483648 by omega), hp i (show i < 8 by omega), b3, nI_1, Int32.add_zero]
                repeat refine ⟨vp_in_nI (by omega) (by omega), ?_⟩
                exact nx
              | false =>
                rw [b1, b2, b3] at nx
                refine go_ok okF1 (C := cdX11_newPairs) (by rfl) [15] 40 (by exact Nat.le_of_ble_eq_true rfl) ?_
                simp (maxSteps := 2000000) only [go, stp, inS, ↓reduceIte, Bool.false_eq_true, Nat.reduceLT, Nat.reduceEqDiff, Nat.reduceAdd, ldI, ldL, ldA, st1, st2, okS, List.getElem?_cons_zero, List.getElem?_cons_succ, List.length_cons, List.length_nil, List.set_cons_zero, List.set_cons_succ, callP, callF, popN, ct, Value.category, cI, List.getD_cons_zero, List.getD_cons_succ, and_self, and_true, true_and, Nat.zero_le, Nat.reduceLeDiff, Nat.add_zero, Nat.zero_add, List.nil_append, List.cons_append, Option.toList_some, Option.toList_none, List.append_nil, hset_ss, true_or, or_true, eq_self, beq_self_eq_true, List.drop_succ_cons, List.drop_zero, swT, swL, hset_ap, not_true_eq_false, not_false_eq_true, true_implies, false_implies, implies_true, Int32.reduceLE, Int32.reduceLT, Int32.reduceAdd, Int32.reduceSub, Int32.reduceOfInt, Int32.reduceToNatClampNeg, i10, i01, Nat.add_left_cancel_iff, Nat.left_eq_add, Nat.add_eq_left, cdX11_newPairs, F1, e2, b_ask _ (show i < 32 by omega), b_ask _ (show i + 1 + j < 32 by omega), b1, b2, m.o, m.a40, i_cl (show i < 2147483648 by omega), hp i (show i < 8 by omega), b3, nI_1]
                repeat refine ⟨vp_in_nI (by omega) (by omega), ?_⟩
                exact nx
      have := inner (7 - i) 0 (by omega)
      exact this
  exact outer 8 0 _ (by omega)
set_option maxRecDepth 100000 in
set_option maxHeartbeats 400000 in
theorem D_learn {x : Int32} (m : MI h M) (ok : MOk M) (hq : ∀ h', MI h' (stLearn M x).2 → sOff h h' 52 80 → Q (some (.int (stLearn M x).1)) n h') : Ok 225 [.ref 52, .int x] n h Q := by
  unfold stLearn at hq
  have m0 := m
  obtain ⟨c, a, l, m, r⟩ := m
  refine ok_of kMX11_learn kCX11_learn (Nat.le_of_ble_eq_true rfl) (fun z => ?_)
  change A z _ _ 0 0 _ 0 [some (.ref 52), some (.int x), none, none, none, none] [] _
  refine go_ok okF1 (C := cdX11_learn) (by rfl) [] 40 (by exact Nat.le_of_ble_eq_true rfl) ?_
  simp (maxSteps := 2000000) only [go, stp, inS, ↓reduceIte, Bool.false_eq_true, Nat.reduceLT, Nat.reduceEqDiff, Nat.reduceAdd, ldI, ldL, ldA, st1, st2, okS, List.getElem?_cons_zero, List.getElem?_cons_succ, List.length_cons, List.length_nil, List.set_cons_zero, List.set_cons_succ, callP, callF, popN, ct, Value.category, cI, List.getD_cons_zero, List.getD_cons_succ, and_self, and_true, true_and, Nat.zero_le, Nat.reduceLeDiff, Nat.add_zero, Nat.zero_add, List.nil_append, List.cons_append, Option.toList_some, Option.toList_none, List.append_nil, hset_ss, true_or, or_true, eq_self, beq_self_eq_true, List.drop_succ_cons, List.drop_zero, swT, swL, hset_ap, not_true_eq_false, not_false_eq_true, true_implies, false_implies, implies_true, Int32.reduceLE, Int32.reduceLT, Int32.reduceAdd, Int32.reduceSub, Int32.reduceOfInt, Int32.reduceToNatClampNeg, i10, i01, Nat.add_left_cancel_iff, Nat.left_eq_add, Nat.add_eq_left, cdX11_learn, F1, m.o]
  refine D_without m0 ok (fun e => ?_) (fun t ht e hw h' m' o => ?_) (fun t ht e hw h1 c1 a1 l1 m1 k1 o1 => ?_)
  · rw [if_neg e] at hq
    refine go_ok okF1 (C := cdX11_learn) (by rfl) [] 40 (by exact Nat.le_of_ble_eq_true rfl) ?_
    simp (maxSteps := 2000000) only [go, stp, inS, ↓reduceIte, Bool.false_eq_true, Nat.reduceLT, Nat.reduceEqDiff, Nat.reduceAdd, ldI, ldL, ldA, st1, st2, okS, List.getElem?_cons_zero, List.getElem?_cons_succ, List.length_cons, List.length_nil, List.set_cons_zero, List.set_cons_succ, callP, callF, popN, ct, Value.category, cI, List.getD_cons_zero, List.getD_cons_succ, and_self, and_true, true_and, Nat.zero_le, Nat.reduceLeDiff, Nat.add_zero, Nat.zero_add, List.nil_append, List.cons_append, Option.toList_some, Option.toList_none, List.append_nil, hset_ss, true_or, or_true, eq_self, beq_self_eq_true, List.drop_succ_cons, List.drop_zero, swT, swL, hset_ap, not_true_eq_false, not_false_eq_true, true_implies, false_implies, implies_true, Int32.reduceLE, Int32.reduceLT, Int32.reduceAdd, Int32.reduceSub, Int32.reduceOfInt, Int32.reduceToNatClampNeg, i10, i01, Nat.add_left_cancel_iff, Nat.left_eq_add, Nat.add_eq_left, cdX11_learn, F1, (show ¬ (-2 : Int32) = 0 by decide)]
    exact hq h m0 sOff.rf
  · subst e
    rw [if_pos (t2 ht), i_cl (show t < 2147483648 by omega), if_neg hw] at hq
    refine go_ok okF1 (C := cdX11_learn) (by rfl) [] 40 (by exact Nat.le_of_ble_eq_true rfl) ?_
    simp (maxSteps := 2000000) only [go, stp, inS, ↓reduceIte, Bool.false_eq_true, Nat.reduceLT, Nat.reduceEqDiff, Nat.reduceAdd, ldI, ldL, ldA, st1, st2, okS, List.getElem?_cons_zero, List.getElem?_cons_succ, List.length_cons, List.length_nil, List.set_cons_zero, List.set_cons_succ, callP, callF, popN, ct, Value.category, cI, List.getD_cons_zero, List.getD_cons_succ, and_self, and_true, true_and, Nat.zero_le, Nat.reduceLeDiff, Nat.add_zero, Nat.zero_add, List.nil_append, List.cons_append, Option.toList_some, Option.toList_none, List.append_nil, hset_ss, true_or, or_true, eq_self, beq_self_eq_true, List.drop_succ_cons, List.drop_zero, swT, swL, hset_ap, not_true_eq_false, not_false_eq_true, true_implies, false_implies, implies_true, Int32.reduceLE, Int32.reduceLT, Int32.reduceAdd, Int32.reduceSub, Int32.reduceOfInt, Int32.reduceToNatClampNeg, i10, i01, Nat.add_left_cancel_iff, Nat.left_eq_add, Nat.add_eq_left, cdX11_learn, F1, m3n]
    exact hq h' m' o
  · subst e
    rw [if_pos (t2 ht), i_cl (show t < 2147483648 by omega), if_pos hw] at hq
    refine go_ok okF1 (C := cdX11_learn) (by rfl) [] 40 (by exact Nat.le_of_ble_eq_true rfl) ?_
    simp (maxSteps := 2000000) only [go, stp, inS, ↓reduceIte, Bool.false_eq_true, Nat.reduceLT, Nat.reduceEqDiff, Nat.reduceAdd, ldI, ldL, ldA, st1, st2, okS, List.getElem?_cons_zero, List.getElem?_cons_succ, List.length_cons, List.length_nil, List.set_cons_zero, List.set_cons_succ, callP, callF, popN, ct, Value.category, cI, List.getD_cons_zero, List.getD_cons_succ, and_self, and_true, true_and, Nat.zero_le, Nat.reduceLeDiff, Nat.add_zero, Nat.zero_add, List.nil_append, List.cons_append, Option.toList_some, Option.toList_none, List.append_nil, hset_ss, true_or, or_true, eq_self, beq_self_eq_true, List.drop_succ_cons, List.drop_zero, swT, swL, hset_ap, not_true_eq_false, not_false_eq_true, true_implies, false_implies, implies_true, Int32.reduceLE, Int32.reduceLT, Int32.reduceAdd, Int32.reduceSub, Int32.reduceOfInt, Int32.reduceToNatClampNeg, i10, i01, Nat.add_left_cancel_iff, Nat.left_eq_add, Nat.add_eq_left, cdX11_learn, F1, m1.o]
    refine D_firedNow m1 k1 (ok.sok ht hw) ok (fun h2 c2 a2 m2 r2 o2 => ?_)
    rw [fiM_t ok ht hw]
    generalize fiM M (M.s t) = fi at hq ⊢
    refine go_ok okF1 (C := cdX11_learn) (by rfl) [] 40 (by exact Nat.le_of_ble_eq_true rfl) ?_
    simp (maxSteps := 2000000) only [go, stp, inS, ↓reduceIte, Bool.false_eq_true, Nat.reduceLT, Nat.reduceEqDiff, Nat.reduceAdd, ldI, ldL, ldA, st1, st2, okS, List.getElem?_cons_zero, List.getElem?_cons_succ, List.length_cons, List.length_nil, List.set_cons_zero, List.set_cons_succ, callP, callF, popN, ct, Value.category, cI, List.getD_cons_zero, List.getD_cons_succ, and_self, and_true, true_and, Nat.zero_le, Nat.reduceLeDiff, Nat.add_zero, Nat.zero_add, List.nil_append, List.cons_append, Option.toList_some, Option.toList_none, List.append_nil, hset_ss, true_or, or_true, eq_self, beq_self_eq_true, List.drop_succ_cons, List.drop_zero, swT, swL, hset_ap, not_true_eq_false, not_false_eq_true, true_implies, false_implies, implies_true, Int32.reduceLE, Int32.reduceLT, Int32.reduceAdd, Int32.reduceSub, Int32.reduceOfInt, Int32.reduceToNatClampNeg, i10, i01, Nat.add_left_cancel_iff, Nat.left_eq_add, Nat.add_eq_left, cdX11_learn, F1, m2.o]
    refine D_newPairs (M := M) m2 (fun b hb => r2.1.pa hb) ?_
    refine go_ok okF1 (C := cdX11_learn) (by rfl) [27] 40 (by exact Nat.le_of_ble_eq_true rfl) ?_
    simp (maxSteps := 2000000) only [go, stp, inS, ↓reduceIte, Bool.false_eq_true, Nat.reduceLT, Nat.reduceEqDiff, Nat.reduceAdd, ldI, ldL, ldA, st1, st2, okS, List.getElem?_cons_zero, List.getElem?_cons_succ, List.length_cons, List.length_nil, List.set_cons_zero, List.set_cons_succ, callP, callF, popN, ct, Value.category, cI, List.getD_cons_zero, List.getD_cons_succ, and_self, and_true, true_and, Nat.zero_le, Nat.reduceLeDiff, Nat.add_zero, Nat.zero_add, List.nil_append, List.cons_append, Option.toList_some, Option.toList_none, List.append_nil, hset_ss, true_or, or_true, eq_self, beq_self_eq_true, List.drop_succ_cons, List.drop_zero, swT, swL, hset_ap, not_true_eq_false, not_false_eq_true, true_implies, false_implies, implies_true, Int32.reduceLE, Int32.reduceLT, Int32.reduceAdd, Int32.reduceSub, Int32.reduceOfInt, Int32.reduceToNatClampNeg, i10, i01, Nat.add_left_cancel_iff, Nat.left_eq_add, Nat.add_eq_left, cdX11_learn, F1]
    generalize prT (fun i j => bt (npF M.P fi i) j) = pn at hq ⊢
    have loop : ∀ w k h3 a3, k + w = 8 → MH h3 c2 a3 l1 → (∀ i, i ≠ 40 → a3 i = a2 i) → (∀ b, b < 8 → a3 40 b = if b < k then keF M.P fi b else M.P b) → sOff h h3 52 80 → A z 225 n 0 0 h3 27 [some (.ref 52), some (.int (nI t)), some (.int 0), some (.int fi), some (.int (nI pn)), some (.int (nI k))] [] Q := by
      intro w
      induction w with
      | zero =>
        intro k h3 a3 hw2 m3 f3 k3 o3
        obtain rfl : k = 8 := by omega
        refine go_ok okF1 (C := cdX11_learn) (by rfl) [] 40 (by exact Nat.le_of_ble_eq_true rfl) ?_
        simp (maxSteps := 2000000) only [go, stp, inS, ↓reduceIte, Bool.false_eq_true, Nat.reduceLT, Nat.reduceEqDiff, Nat.reduceAdd, ldI, ldL, ldA, st1, st2, okS, List.getElem?_cons_zero, List.getElem?_cons_succ, List.length_cons, List.length_nil, List.set_cons_zero, List.set_cons_succ, callP, callF, popN, ct, Value.category, cI, List.getD_cons_zero, List.getD_cons_succ, and_self, and_true, true_and, Nat.zero_le, Nat.reduceLeDiff, Nat.add_zero, Nat.zero_add, List.nil_append, List.cons_append, Option.toList_some, Option.toList_none, List.append_nil, hset_ss, true_or, or_true, eq_self, beq_self_eq_true, List.drop_succ_cons, List.drop_zero, swT, swL, hset_ap, not_true_eq_false, not_false_eq_true, true_implies, false_implies, implies_true, Int32.reduceLE, Int32.reduceLT, Int32.reduceAdd, Int32.reduceSub, Int32.reduceOfInt, Int32.reduceToNatClampNeg, i10, i01, Nat.add_left_cancel_iff, Nat.left_eq_add, Nat.add_eq_left, cdX11_learn, F1, (show (8 : Int32) ≤ nI 8 by decide)]
        have r3 : mR M c2 a2 l1 := r2.1
        refine hq h3 ⟨c2, a3, l1, m3, r3.1, ?_, ?_, ?_, fun b hb => by rw [k3 b hb, if_pos hb]; rfl, ?_, ?_, r3.2.2.2.2.2.2.2⟩ o3
        · rw [f3 6 (by omega)]; exact r3.2.1
        · rw [f3 10 (by omega)]; exact r3.2.2.1
        · rw [f3 9 (by omega)]; exact r3.2.2.2.1
        · rw [f3 0 (by omega)]; exact r3.2.2.2.2.2.1
        · rw [f3 1 (by omega)]; exact r3.2.2.2.2.2.2.1
      | succ w ih =>
        intro k h3 a3 hw2 m3 f3 k3 o3
        have e : ¬ 8 ≤ nI k := by rw [show (8 : Int32) = nI 8 from rfl, i_le (by omega) (by omega)]; omega
        have ka : a3 40 k = M.P k := by rw [k3 k (by omega), if_neg (by omega)]
        have fin : ∀ v, v = keF M.P fi k → A z 225 n 0 0 (hset h3 78 (.inr (8, .inl (upd (a3 40) k v)))) 27 [some (.ref 52), some (.int (nI t)), some (.int 0), some (.int fi), some (.int (nI pn)), some (.int (nI (k + 1)))] [] Q := fun v hv => by
          refine ih (k + 1) _ _ (by omega) (m3.s40 (upd (a3 40) k v)) (fun i hi => by rw [fset_n _ _ hi]; exact f3 i hi) (fun b hb => ?_) (o3.set (by omega) (by omega))
          show upd (a3 40) k v b = _
          by_cases eb : b = k
          · subst eb; rw [pk_us, if_pos (by omega)]; exact hv
          · rw [pk_un eb, k3 b hb]
            by_cases e2 : b < k
            · rw [if_pos e2, if_pos (by omega)]
            · rw [if_neg e2, if_neg (by omega)]
        cases b1 : bt fi k with
        | false =>
          refine go_ok okF1 (C := cdX11_learn) (by rfl) [27] 40 (by exact Nat.le_of_ble_eq_true rfl) ?_
          simp (maxSteps := 2000000) only [go, stp, inS, ↓reduceIte, Bool.false_eq_true, Nat.reduceLT, Nat.reduceEqDiff, Nat.reduceAdd, ldI, ldL, ldA, st1, st2, okS, List.getElem?_cons_zero, List.getElem?_cons_succ, List.length_cons, List.length_nil, List.set_cons_zero, List.set_cons_succ, callP, callF, popN, ct, Value.category, cI, List.getD_cons_zero, List.getD_cons_succ, and_self, and_true, true_and, Nat.zero_le, Nat.reduceLeDiff, Nat.add_zero, Nat.zero_add, List.nil_append, List.cons_append, Option.toList_some, Option.toList_none, List.append_nil, hset_ss, true_or, or_true, eq_self, beq_self_eq_true, List.drop_succ_cons, List.drop_zero, swT, swL, hset_ap, not_true_eq_false, not_false_eq_true, true_implies, false_implies, implies_true, Int32.reduceLE, Int32.reduceLT, Int32.reduceAdd, Int32.reduceSub, Int32.reduceOfInt, Int32.reduceToNatClampNeg, i10, i01, Nat.add_left_cancel_iff, Nat.left_eq_add, Nat.add_eq_left, cdX11_learn, F1, e, m3.o, m3.a40, i_cl (show k < 2147483648 by omega), b_ask _ (show k < 32 by omega), b1, nI_1, ka]
          repeat refine ⟨vp_in_nI (by omega) (by omega), ?_⟩
          refine fin _ ?_
          unfold keF npF
          rw [if_pos (by omega), b1, if_neg (by decide)]
        | true =>
          refine go_ok okF1 (C := cdX11_learn) (by rfl) [27] 40 (by exact Nat.le_of_ble_eq_true rfl) ?_
          simp (maxSteps := 2000000) only [go, stp, inS, ↓reduceIte, Bool.false_eq_true, Nat.reduceLT, Nat.reduceEqDiff, Nat.reduceAdd, ldI, ldL, ldA, st1, st2, okS, List.getElem?_cons_zero, List.getElem?_cons_succ, List.length_cons, List.length_nil, List.set_cons_zero, List.set_cons_succ, callP, callF, popN, ct, Value.category, cI, List.getD_cons_zero, List.getD_cons_succ, and_self, and_true, true_and, Nat.zero_le, Nat.reduceLeDiff, Nat.add_zero, Nat.zero_add, List.nil_append, List.cons_append, Option.toList_some, Option.toList_none, List.append_nil, hset_ss, true_or, or_true, eq_self, beq_self_eq_true, List.drop_succ_cons, List.drop_zero, swT, swL, hset_ap, not_true_eq_false, not_false_eq_true, true_implies, false_implies, implies_true, Int32.reduceLE, Int32.reduceLT, Int32.reduceAdd, Int32.reduceSub, Int32.reduceOfInt, Int32.reduceToNatClampNeg, i10, i01, Nat.add_left_cancel_iff, Nat.left_eq_add, Nat.add_eq_left, cdX11_learn, F1, e, m3.o, m3.a40, i_cl (show k < 2147483648 by omega), b_ask _ (show k < 32 by omega), b1, nI_1, ka]
          repeat refine ⟨vp_in_nI (by omega) (by omega), ?_⟩
          refine fin _ ?_
          unfold keF npF
          rw [if_pos (by omega), b1, if_pos rfl]
          exact b_ext fun i hi => by
            rw [b_or, b_or, b_and, b_and, b_and, b_not _ hi, b_not _ hi]
            cases bt (M.P k) i <;> simp
    exact loop 8 0 h2 a2 (by omega) m2 (fun _ _ => rfl) (fun b hb => by rw [if_neg (by omega)]; exact r2.1.pa hb) (o1.tr o2)
end MX2
