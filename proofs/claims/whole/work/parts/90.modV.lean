
/-! the model: a compare in a row -/
def lyA (a : Nat → Nat → Int32) (G L R : Nat → Int32) (n : Nat) : Prop := ∀ k, k < n → a 22 k = G k ∧ (isCm (G k) → (a 23 k = kdK (L k) ∧ a 24 k = kdK (R k) ∧ a 25 k = nmK (L k) ∧ a 26 k = nmK (R k)) ∧ tmOk (L k) ∧ tmOk (R k))
section MV
variable {n : Nat} {h : aH} {Q : aQ} {M : MS} {c : Nat → Int32} {a : Nat → Nat → Int32} {l : Nat → Nat → Int64} {G L R : Nat → Int32} {N : Nat}
theorem bt_dn {c : Nat → Int32} {eng : Bool} (i : Nat) : bt (dnE c eng) i = (eng && bt (c 28 &&& c 29) i) := by
  unfold dnE; cases eng
  · rw [if_neg (by decide), b_0]; rfl
  · rw [if_pos rfl]; rfl
theorem vC_f {d : Nat → Bool} {g τ1 τ2 x y : Int32} (hg : isCm g) (hd : ∀ i, d i = false) : vC d g τ1 τ2 x y = r0 g x y := by
  by_cases h1 : P1 g x y
  · rw [vC_1 h1, hd, if_neg (by decide)]
  · by_cases h4 : P4 g x y τ2
    · rw [vC_4 h4, hd, if_neg (by decide)]
    · by_cases h6 : P6 g x y τ1 τ2
      · rw [vC_6 h6, hd, if_neg (by decide)]
      · exact vC_0 hg h1 h4 h6
theorem fiN.one {c : Nat → Int32} {v : Int32} {i : Nat} {P : Nat → Prop} (h : fiN c true v (fun j => j = i)) (hP : ∀ j, P j ↔ j = i) : fiN c true v P := fun j hj => by
  rw [h j hj, hP j]
set_option maxRecDepth 100000 in
set_option maxHeartbeats 400000 in
theorem than_rest {z : aZ} {k r : Nat} {g x y nn : Int32} {eng : Bool} {h' : aH} {c' : Nat → Int32} (hk : k < 100) (a22 : a 22 k = g) (hc : isCm g) (m' : MH h' c' a l) (hn : (nn = 1 ∧ (x = -100 ∨ y = -100) ∨ nn = 0 ∧ ¬ (x = -100 ∨ y = -100))) (hQ : Q (some (.int (nI (r0 g x y)))) n h') : A z 187 n 0 0 h' 203 [some (.ref 52), some (.int (nI k)), some (.int (nI r)), some (.int (eI eng)), some (.int x), some (.int y), some (.int nn), none] [] Q := by
  have sg : ∀ {u : Int32}, g = u → a 22 k = u := fun e => a22.trans e
  unfold r0 at hQ
  rcases hn with ⟨rfl, hn⟩ | ⟨rfl, hn⟩
  · rw [if_pos hn] at hQ
    rcases hc with e | e | e
    · by_cases e2 : y ≤ x
      · refine go_ok okF1 (C := cdX11_than) (by rfl) [] 60 (by exact Nat.le_of_ble_eq_true rfl) ?_
        simp (maxSteps := 2000000) only [go, stp, inS, ↓reduceIte, Bool.false_eq_true, Nat.reduceLT, Nat.reduceEqDiff, Nat.reduceAdd, ldI, ldL, ldA, st1, st2, okS, List.getElem?_cons_zero, List.getElem?_cons_succ, List.length_cons, List.length_nil, List.set_cons_zero, List.set_cons_succ, callP, callF, popN, ct, Value.category, cI, List.getD_cons_zero, List.getD_cons_succ, and_self, and_true, true_and, Nat.zero_le, Nat.reduceLeDiff, Nat.add_zero, Nat.zero_add, List.nil_append, List.cons_append, Option.toList_some, Option.toList_none, List.append_nil, hset_ss, true_or, or_true, eq_self, beq_self_eq_true, List.drop_succ_cons, List.drop_zero, swT, swL, hset_ap, not_true_eq_false, not_false_eq_true, true_implies, false_implies, implies_true, Int32.reduceLE, Int32.reduceLT, Int32.reduceAdd, Int32.reduceSub, Int32.reduceOfInt, Int32.reduceToNatClampNeg, i10, i01, Nat.add_left_cancel_iff, Nat.left_eq_add, Nat.add_eq_left, cdX11_than, F1, m'.o, m'.a22, i_cl (show k < 2147483648 by omega), sg e, eq_true e2]
        repeat refine ⟨vp_in_nI (by omega) (by omega), ?_⟩
        exact hQ
      · refine go_ok okF1 (C := cdX11_than) (by rfl) [] 60 (by exact Nat.le_of_ble_eq_true rfl) ?_
        simp (maxSteps := 2000000) only [go, stp, inS, ↓reduceIte, Bool.false_eq_true, Nat.reduceLT, Nat.reduceEqDiff, Nat.reduceAdd, ldI, ldL, ldA, st1, st2, okS, List.getElem?_cons_zero, List.getElem?_cons_succ, List.length_cons, List.length_nil, List.set_cons_zero, List.set_cons_succ, callP, callF, popN, ct, Value.category, cI, List.getD_cons_zero, List.getD_cons_succ, and_self, and_true, true_and, Nat.zero_le, Nat.reduceLeDiff, Nat.add_zero, Nat.zero_add, List.nil_append, List.cons_append, Option.toList_some, Option.toList_none, List.append_nil, hset_ss, true_or, or_true, eq_self, beq_self_eq_true, List.drop_succ_cons, List.drop_zero, swT, swL, hset_ap, not_true_eq_false, not_false_eq_true, true_implies, false_implies, implies_true, Int32.reduceLE, Int32.reduceLT, Int32.reduceAdd, Int32.reduceSub, Int32.reduceOfInt, Int32.reduceToNatClampNeg, i10, i01, Nat.add_left_cancel_iff, Nat.left_eq_add, Nat.add_eq_left, cdX11_than, F1, m'.o, m'.a22, i_cl (show k < 2147483648 by omega), sg e, e2]
        repeat refine ⟨vp_in_nI (by omega) (by omega), ?_⟩
        exact hQ
    · by_cases e2 : x = y
      · refine go_ok okF1 (C := cdX11_than) (by rfl) [] 60 (by exact Nat.le_of_ble_eq_true rfl) ?_
        simp (maxSteps := 2000000) only [go, stp, inS, ↓reduceIte, Bool.false_eq_true, Nat.reduceLT, Nat.reduceEqDiff, Nat.reduceAdd, ldI, ldL, ldA, st1, st2, okS, List.getElem?_cons_zero, List.getElem?_cons_succ, List.length_cons, List.length_nil, List.set_cons_zero, List.set_cons_succ, callP, callF, popN, ct, Value.category, cI, List.getD_cons_zero, List.getD_cons_succ, and_self, and_true, true_and, Nat.zero_le, Nat.reduceLeDiff, Nat.add_zero, Nat.zero_add, List.nil_append, List.cons_append, Option.toList_some, Option.toList_none, List.append_nil, hset_ss, true_or, or_true, eq_self, beq_self_eq_true, List.drop_succ_cons, List.drop_zero, swT, swL, hset_ap, not_true_eq_false, not_false_eq_true, true_implies, false_implies, implies_true, Int32.reduceLE, Int32.reduceLT, Int32.reduceAdd, Int32.reduceSub, Int32.reduceOfInt, Int32.reduceToNatClampNeg, i10, i01, Nat.add_left_cancel_iff, Nat.left_eq_add, Nat.add_eq_left, cdX11_than, F1, m'.o, m'.a22, i_cl (show k < 2147483648 by omega), sg e, e2, (show ¬ (61 : Int32) = 60 by decide)]
        repeat refine ⟨vp_in_nI (by omega) (by omega), ?_⟩
        exact hQ
      · refine go_ok okF1 (C := cdX11_than) (by rfl) [] 60 (by exact Nat.le_of_ble_eq_true rfl) ?_
        simp (maxSteps := 2000000) only [go, stp, inS, ↓reduceIte, Bool.false_eq_true, Nat.reduceLT, Nat.reduceEqDiff, Nat.reduceAdd, ldI, ldL, ldA, st1, st2, okS, List.getElem?_cons_zero, List.getElem?_cons_succ, List.length_cons, List.length_nil, List.set_cons_zero, List.set_cons_succ, callP, callF, popN, ct, Value.category, cI, List.getD_cons_zero, List.getD_cons_succ, and_self, and_true, true_and, Nat.zero_le, Nat.reduceLeDiff, Nat.add_zero, Nat.zero_add, List.nil_append, List.cons_append, Option.toList_some, Option.toList_none, List.append_nil, hset_ss, true_or, or_true, eq_self, beq_self_eq_true, List.drop_succ_cons, List.drop_zero, swT, swL, hset_ap, not_true_eq_false, not_false_eq_true, true_implies, false_implies, implies_true, Int32.reduceLE, Int32.reduceLT, Int32.reduceAdd, Int32.reduceSub, Int32.reduceOfInt, Int32.reduceToNatClampNeg, i10, i01, Nat.add_left_cancel_iff, Nat.left_eq_add, Nat.add_eq_left, cdX11_than, F1, m'.o, m'.a22, i_cl (show k < 2147483648 by omega), sg e, e2, (show ¬ (61 : Int32) = 60 by decide)]
        repeat refine ⟨vp_in_nI (by omega) (by omega), ?_⟩
        exact hQ
    · by_cases e2 : x ≤ y
      · refine go_ok okF1 (C := cdX11_than) (by rfl) [] 60 (by exact Nat.le_of_ble_eq_true rfl) ?_
        simp (maxSteps := 2000000) only [go, stp, inS, ↓reduceIte, Bool.false_eq_true, Nat.reduceLT, Nat.reduceEqDiff, Nat.reduceAdd, ldI, ldL, ldA, st1, st2, okS, List.getElem?_cons_zero, List.getElem?_cons_succ, List.length_cons, List.length_nil, List.set_cons_zero, List.set_cons_succ, callP, callF, popN, ct, Value.category, cI, List.getD_cons_zero, List.getD_cons_succ, and_self, and_true, true_and, Nat.zero_le, Nat.reduceLeDiff, Nat.add_zero, Nat.zero_add, List.nil_append, List.cons_append, Option.toList_some, Option.toList_none, List.append_nil, hset_ss, true_or, or_true, eq_self, beq_self_eq_true, List.drop_succ_cons, List.drop_zero, swT, swL, hset_ap, not_true_eq_false, not_false_eq_true, true_implies, false_implies, implies_true, Int32.reduceLE, Int32.reduceLT, Int32.reduceAdd, Int32.reduceSub, Int32.reduceOfInt, Int32.reduceToNatClampNeg, i10, i01, Nat.add_left_cancel_iff, Nat.left_eq_add, Nat.add_eq_left, cdX11_than, F1, m'.o, m'.a22, i_cl (show k < 2147483648 by omega), sg e, eq_true e2, (show ¬ (62 : Int32) = 60 by decide), (show ¬ (62 : Int32) = 61 by decide)]
        repeat refine ⟨vp_in_nI (by omega) (by omega), ?_⟩
        exact hQ
      · refine go_ok okF1 (C := cdX11_than) (by rfl) [] 60 (by exact Nat.le_of_ble_eq_true rfl) ?_
        simp (maxSteps := 2000000) only [go, stp, inS, ↓reduceIte, Bool.false_eq_true, Nat.reduceLT, Nat.reduceEqDiff, Nat.reduceAdd, ldI, ldL, ldA, st1, st2, okS, List.getElem?_cons_zero, List.getElem?_cons_succ, List.length_cons, List.length_nil, List.set_cons_zero, List.set_cons_succ, callP, callF, popN, ct, Value.category, cI, List.getD_cons_zero, List.getD_cons_succ, and_self, and_true, true_and, Nat.zero_le, Nat.reduceLeDiff, Nat.add_zero, Nat.zero_add, List.nil_append, List.cons_append, Option.toList_some, Option.toList_none, List.append_nil, hset_ss, true_or, or_true, eq_self, beq_self_eq_true, List.drop_succ_cons, List.drop_zero, swT, swL, hset_ap, not_true_eq_false, not_false_eq_true, true_implies, false_implies, implies_true, Int32.reduceLE, Int32.reduceLT, Int32.reduceAdd, Int32.reduceSub, Int32.reduceOfInt, Int32.reduceToNatClampNeg, i10, i01, Nat.add_left_cancel_iff, Nat.left_eq_add, Nat.add_eq_left, cdX11_than, F1, m'.o, m'.a22, i_cl (show k < 2147483648 by omega), sg e, e2, (show ¬ (62 : Int32) = 60 by decide), (show ¬ (62 : Int32) = 61 by decide)]
        repeat refine ⟨vp_in_nI (by omega) (by omega), ?_⟩
        exact hQ
  · rw [if_neg hn] at hQ
    rcases hc with e | e | e
    · rw [if_pos e] at hQ
      by_cases e2 : y ≤ x
      · refine go_ok okF1 (C := cdX11_than) (by rfl) [] 60 (by exact Nat.le_of_ble_eq_true rfl) ?_
        simp (maxSteps := 2000000) only [go, stp, inS, ↓reduceIte, Bool.false_eq_true, Nat.reduceLT, Nat.reduceEqDiff, Nat.reduceAdd, ldI, ldL, ldA, st1, st2, okS, List.getElem?_cons_zero, List.getElem?_cons_succ, List.length_cons, List.length_nil, List.set_cons_zero, List.set_cons_succ, callP, callF, popN, ct, Value.category, cI, List.getD_cons_zero, List.getD_cons_succ, and_self, and_true, true_and, Nat.zero_le, Nat.reduceLeDiff, Nat.add_zero, Nat.zero_add, List.nil_append, List.cons_append, Option.toList_some, Option.toList_none, List.append_nil, hset_ss, true_or, or_true, eq_self, beq_self_eq_true, List.drop_succ_cons, List.drop_zero, swT, swL, hset_ap, not_true_eq_false, not_false_eq_true, true_implies, false_implies, implies_true, Int32.reduceLE, Int32.reduceLT, Int32.reduceAdd, Int32.reduceSub, Int32.reduceOfInt, Int32.reduceToNatClampNeg, i10, i01, Nat.add_left_cancel_iff, Nat.left_eq_add, Nat.add_eq_left, cdX11_than, F1, m'.o, m'.a22, i_cl (show k < 2147483648 by omega), sg e, eq_true e2]
        repeat refine ⟨vp_in_nI (by omega) (by omega), ?_⟩
        rw [if_neg (i_nlt.mpr e2)] at hQ; exact hQ
      · refine go_ok okF1 (C := cdX11_than) (by rfl) [] 60 (by exact Nat.le_of_ble_eq_true rfl) ?_
        simp (maxSteps := 2000000) only [go, stp, inS, ↓reduceIte, Bool.false_eq_true, Nat.reduceLT, Nat.reduceEqDiff, Nat.reduceAdd, ldI, ldL, ldA, st1, st2, okS, List.getElem?_cons_zero, List.getElem?_cons_succ, List.length_cons, List.length_nil, List.set_cons_zero, List.set_cons_succ, callP, callF, popN, ct, Value.category, cI, List.getD_cons_zero, List.getD_cons_succ, and_self, and_true, true_and, Nat.zero_le, Nat.reduceLeDiff, Nat.add_zero, Nat.zero_add, List.nil_append, List.cons_append, Option.toList_some, Option.toList_none, List.append_nil, hset_ss, true_or, or_true, eq_self, beq_self_eq_true, List.drop_succ_cons, List.drop_zero, swT, swL, hset_ap, not_true_eq_false, not_false_eq_true, true_implies, false_implies, implies_true, Int32.reduceLE, Int32.reduceLT, Int32.reduceAdd, Int32.reduceSub, Int32.reduceOfInt, Int32.reduceToNatClampNeg, i10, i01, Nat.add_left_cancel_iff, Nat.left_eq_add, Nat.add_eq_left, cdX11_than, F1, m'.o, m'.a22, i_cl (show k < 2147483648 by omega), sg e, e2]
        repeat refine ⟨vp_in_nI (by omega) (by omega), ?_⟩
        rw [if_pos (i_nle.mp e2)] at hQ; exact hQ
    · rw [if_neg (by rw [e]; decide), if_pos e] at hQ
      by_cases e2 : x = y
      · refine go_ok okF1 (C := cdX11_than) (by rfl) [] 60 (by exact Nat.le_of_ble_eq_true rfl) ?_
        simp (maxSteps := 2000000) only [go, stp, inS, ↓reduceIte, Bool.false_eq_true, Nat.reduceLT, Nat.reduceEqDiff, Nat.reduceAdd, ldI, ldL, ldA, st1, st2, okS, List.getElem?_cons_zero, List.getElem?_cons_succ, List.length_cons, List.length_nil, List.set_cons_zero, List.set_cons_succ, callP, callF, popN, ct, Value.category, cI, List.getD_cons_zero, List.getD_cons_succ, and_self, and_true, true_and, Nat.zero_le, Nat.reduceLeDiff, Nat.add_zero, Nat.zero_add, List.nil_append, List.cons_append, Option.toList_some, Option.toList_none, List.append_nil, hset_ss, true_or, or_true, eq_self, beq_self_eq_true, List.drop_succ_cons, List.drop_zero, swT, swL, hset_ap, not_true_eq_false, not_false_eq_true, true_implies, false_implies, implies_true, Int32.reduceLE, Int32.reduceLT, Int32.reduceAdd, Int32.reduceSub, Int32.reduceOfInt, Int32.reduceToNatClampNeg, i10, i01, Nat.add_left_cancel_iff, Nat.left_eq_add, Nat.add_eq_left, cdX11_than, F1, m'.o, m'.a22, i_cl (show k < 2147483648 by omega), sg e, e2, (show ¬ (61 : Int32) = 60 by decide)]
        repeat refine ⟨vp_in_nI (by omega) (by omega), ?_⟩
        rw [if_pos e2] at hQ; exact hQ
      · refine go_ok okF1 (C := cdX11_than) (by rfl) [] 60 (by exact Nat.le_of_ble_eq_true rfl) ?_
        simp (maxSteps := 2000000) only [go, stp, inS, ↓reduceIte, Bool.false_eq_true, Nat.reduceLT, Nat.reduceEqDiff, Nat.reduceAdd, ldI, ldL, ldA, st1, st2, okS, List.getElem?_cons_zero, List.getElem?_cons_succ, List.length_cons, List.length_nil, List.set_cons_zero, List.set_cons_succ, callP, callF, popN, ct, Value.category, cI, List.getD_cons_zero, List.getD_cons_succ, and_self, and_true, true_and, Nat.zero_le, Nat.reduceLeDiff, Nat.add_zero, Nat.zero_add, List.nil_append, List.cons_append, Option.toList_some, Option.toList_none, List.append_nil, hset_ss, true_or, or_true, eq_self, beq_self_eq_true, List.drop_succ_cons, List.drop_zero, swT, swL, hset_ap, not_true_eq_false, not_false_eq_true, true_implies, false_implies, implies_true, Int32.reduceLE, Int32.reduceLT, Int32.reduceAdd, Int32.reduceSub, Int32.reduceOfInt, Int32.reduceToNatClampNeg, i10, i01, Nat.add_left_cancel_iff, Nat.left_eq_add, Nat.add_eq_left, cdX11_than, F1, m'.o, m'.a22, i_cl (show k < 2147483648 by omega), sg e, e2, (show ¬ (61 : Int32) = 60 by decide)]
        repeat refine ⟨vp_in_nI (by omega) (by omega), ?_⟩
        rw [if_neg e2] at hQ; exact hQ
    · rw [if_neg (by rw [e]; decide), if_neg (by rw [e]; decide)] at hQ
      by_cases e2 : x ≤ y
      · refine go_ok okF1 (C := cdX11_than) (by rfl) [] 60 (by exact Nat.le_of_ble_eq_true rfl) ?_
        simp (maxSteps := 2000000) only [go, stp, inS, ↓reduceIte, Bool.false_eq_true, Nat.reduceLT, Nat.reduceEqDiff, Nat.reduceAdd, ldI, ldL, ldA, st1, st2, okS, List.getElem?_cons_zero, List.getElem?_cons_succ, List.length_cons, List.length_nil, List.set_cons_zero, List.set_cons_succ, callP, callF, popN, ct, Value.category, cI, List.getD_cons_zero, List.getD_cons_succ, and_self, and_true, true_and, Nat.zero_le, Nat.reduceLeDiff, Nat.add_zero, Nat.zero_add, List.nil_append, List.cons_append, Option.toList_some, Option.toList_none, List.append_nil, hset_ss, true_or, or_true, eq_self, beq_self_eq_true, List.drop_succ_cons, List.drop_zero, swT, swL, hset_ap, not_true_eq_false, not_false_eq_true, true_implies, false_implies, implies_true, Int32.reduceLE, Int32.reduceLT, Int32.reduceAdd, Int32.reduceSub, Int32.reduceOfInt, Int32.reduceToNatClampNeg, i10, i01, Nat.add_left_cancel_iff, Nat.left_eq_add, Nat.add_eq_left, cdX11_than, F1, m'.o, m'.a22, i_cl (show k < 2147483648 by omega), sg e, eq_true e2, (show ¬ (62 : Int32) = 60 by decide), (show ¬ (62 : Int32) = 61 by decide)]
        repeat refine ⟨vp_in_nI (by omega) (by omega), ?_⟩
        rw [if_neg (i_nlt.mpr e2)] at hQ; exact hQ
      · refine go_ok okF1 (C := cdX11_than) (by rfl) [] 60 (by exact Nat.le_of_ble_eq_true rfl) ?_
        simp (maxSteps := 2000000) only [go, stp, inS, ↓reduceIte, Bool.false_eq_true, Nat.reduceLT, Nat.reduceEqDiff, Nat.reduceAdd, ldI, ldL, ldA, st1, st2, okS, List.getElem?_cons_zero, List.getElem?_cons_succ, List.length_cons, List.length_nil, List.set_cons_zero, List.set_cons_succ, callP, callF, popN, ct, Value.category, cI, List.getD_cons_zero, List.getD_cons_succ, and_self, and_true, true_and, Nat.zero_le, Nat.reduceLeDiff, Nat.add_zero, Nat.zero_add, List.nil_append, List.cons_append, Option.toList_some, Option.toList_none, List.append_nil, hset_ss, true_or, or_true, eq_self, beq_self_eq_true, List.drop_succ_cons, List.drop_zero, swT, swL, hset_ap, not_true_eq_false, not_false_eq_true, true_implies, false_implies, implies_true, Int32.reduceLE, Int32.reduceLT, Int32.reduceAdd, Int32.reduceSub, Int32.reduceOfInt, Int32.reduceToNatClampNeg, i10, i01, Nat.add_left_cancel_iff, Nat.left_eq_add, Nat.add_eq_left, cdX11_than, F1, m'.o, m'.a22, i_cl (show k < 2147483648 by omega), sg e, e2, (show ¬ (62 : Int32) = 60 by decide), (show ¬ (62 : Int32) = 61 by decide)]
        repeat refine ⟨vp_in_nI (by omega) (by omega), ?_⟩
        rw [if_pos (i_nle.mp e2)] at hQ; exact hQ
set_option maxRecDepth 100000 in
set_option maxHeartbeats 400000 in
theorem than_f {z : aZ} {k r : Nat} {g x y nn τ1 τ2 : Int32} (hk : k < 100) (a22 : a 22 k = g) (a23 : a 23 k = kdK τ1) (a24 : a 24 k = kdK τ2) (kl1 : kdK τ1 < 3 ↔ coB τ1 = true) (kr1 : kdK τ2 < 3 ↔ coB τ2 = true) (kr2 : kdK τ2 = 3 ↔ toB τ2 = true) (hc : isCm g) (m : MH h c a l) (hn : (nn = 1 ∧ (x = -100 ∨ y = -100) ∨ nn = 0 ∧ ¬ (x = -100 ∨ y = -100))) (hq : ∀ h' v, MH h' (upd c 30 v) a l → fiN c false v (fun j => FC j g τ1 τ2 x y) → sOff h h' 52 80 → Q (some (.int (nI (vC (bt (dnE c false)) g τ1 τ2 x y)))) n h') : A z 187 n 0 0 h 59 [some (.ref 52), some (.int (nI k)), some (.int (nI r)), some (.int (eI false)), some (.int x), some (.int y), some (.int nn), none] [] Q := by
  refine go_ok okF1 (C := cdX11_than) (by rfl) [203] 60 (by exact Nat.le_of_ble_eq_true rfl) ?_
  simp (maxSteps := 2000000) only [go, stp, inS, ↓reduceIte, Bool.false_eq_true, Nat.reduceLT, Nat.reduceEqDiff, Nat.reduceAdd, ldI, ldL, ldA, st1, st2, okS, List.getElem?_cons_zero, List.getElem?_cons_succ, List.length_cons, List.length_nil, List.set_cons_zero, List.set_cons_succ, callP, callF, popN, ct, Value.category, cI, List.getD_cons_zero, List.getD_cons_succ, and_self, and_true, true_and, Nat.zero_le, Nat.reduceLeDiff, Nat.add_zero, Nat.zero_add, List.nil_append, List.cons_append, Option.toList_some, Option.toList_none, List.append_nil, hset_ss, true_or, or_true, eq_self, beq_self_eq_true, List.drop_succ_cons, List.drop_zero, swT, swL, hset_ap, not_true_eq_false, not_false_eq_true, true_implies, false_implies, implies_true, Int32.reduceLE, Int32.reduceLT, Int32.reduceAdd, Int32.reduceSub, Int32.reduceOfInt, Int32.reduceToNatClampNeg, i10, i01, Nat.add_left_cancel_iff, Nat.left_eq_add, Nat.add_eq_left, cdX11_than, F1, (show eI false = 0 from rfl)]
  refine than_rest (eng := false) hk a22 hc m hn ?_
  have := hq h (c 30) (by rw [upd_me]; exact m) (fiN.no (fun j q => absurd q (by decide))) sOff.rf
  rw [vC_f hc (fun i => by rw [bt_dn]; rfl)] at this
  exact this
set_option maxRecDepth 100000 in
set_option maxHeartbeats 400000 in
theorem than_t {z : aZ} {k r : Nat} {g x y nn τ1 τ2 : Int32} (hk : k < 100) (a22 : a 22 k = g) (a23 : a 23 k = kdK τ1) (a24 : a 24 k = kdK τ2) (kl1 : kdK τ1 < 3 ↔ coB τ1 = true) (kr1 : kdK τ2 < 3 ↔ coB τ2 = true) (kr2 : kdK τ2 = 3 ↔ toB τ2 = true) (hc : isCm g) (m : MH h c a l) (hn : (nn = 1 ∧ (x = -100 ∨ y = -100) ∨ nn = 0 ∧ ¬ (x = -100 ∨ y = -100))) (hq : ∀ h' v, MH h' (upd c 30 v) a l → fiN c true v (fun j => FC j g τ1 τ2 x y) → sOff h h' 52 80 → Q (some (.int (nI (vC (bt (dnE c true)) g τ1 τ2 x y)))) n h') : A z 187 n 0 0 h 59 [some (.ref 52), some (.int (nI k)), some (.int (nI r)), some (.int (eI true)), some (.int x), some (.int y), some (.int nn), none] [] Q := by
  have dd : ∀ i, bt (dnE c true) i = bt (c 28 &&& c 29) i := fun i => by rw [bt_dn]; rfl
  by_cases p1 : P1 g x y
  · have p1' := p1
    obtain ⟨rfl, rfl, rfl⟩ := p1'
    have fin := fun h' v m' (f : fiN c true v (fun j => j = 1)) o => hq h' v m' (f.one (fun j => by rw [FC_iff]; exact ⟨fun w => w.elim (fun w => w.1) (fun w => w.elim (fun w => absurd w.2.1 (by decide)) (fun w => absurd w.2.1 (by decide))), fun w => Or.inl ⟨w, p1⟩⟩)) o
    rw [vC_1 p1, dd] at fin
    refine go_ok okF1 (C := cdX11_than) (by rfl) [98] 60 (by exact Nat.le_of_ble_eq_true rfl) ?_
    simp (maxSteps := 2000000) only [go, stp, inS, ↓reduceIte, Bool.false_eq_true, Nat.reduceLT, Nat.reduceEqDiff, Nat.reduceAdd, ldI, ldL, ldA, st1, st2, okS, List.getElem?_cons_zero, List.getElem?_cons_succ, List.length_cons, List.length_nil, List.set_cons_zero, List.set_cons_succ, callP, callF, popN, ct, Value.category, cI, List.getD_cons_zero, List.getD_cons_succ, and_self, and_true, true_and, Nat.zero_le, Nat.reduceLeDiff, Nat.add_zero, Nat.zero_add, List.nil_append, List.cons_append, Option.toList_some, Option.toList_none, List.append_nil, hset_ss, true_or, or_true, eq_self, beq_self_eq_true, List.drop_succ_cons, List.drop_zero, swT, swL, hset_ap, not_true_eq_false, not_false_eq_true, true_implies, false_implies, implies_true, Int32.reduceLE, Int32.reduceLT, Int32.reduceAdd, Int32.reduceSub, Int32.reduceOfInt, Int32.reduceToNatClampNeg, i10, i01, Nat.add_left_cancel_iff, Nat.left_eq_add, Nat.add_eq_left, cdX11_than, F1, (show eI true = 1 from rfl), m.o, m.a22, i_cl (show k < 2147483648 by omega), a22]
    repeat refine ⟨vp_in_nI (by omega) (by omega), ?_⟩
    refine D_done m (i := 1) (by omega) (fun h' v m' f o => ?_)
    by_cases db : bt (c 28 &&& c 29) 1 = true
    · rw [if_pos db]
      refine go_ok okF1 (C := cdX11_than) (by rfl) [] 60 (by exact Nat.le_of_ble_eq_true rfl) ?_
      simp (maxSteps := 2000000) only [go, stp, inS, ↓reduceIte, Bool.false_eq_true, Nat.reduceLT, Nat.reduceEqDiff, Nat.reduceAdd, ldI, ldL, ldA, st1, st2, okS, List.getElem?_cons_zero, List.getElem?_cons_succ, List.length_cons, List.length_nil, List.set_cons_zero, List.set_cons_succ, callP, callF, popN, ct, Value.category, cI, List.getD_cons_zero, List.getD_cons_succ, and_self, and_true, true_and, Nat.zero_le, Nat.reduceLeDiff, Nat.add_zero, Nat.zero_add, List.nil_append, List.cons_append, Option.toList_some, Option.toList_none, List.append_nil, hset_ss, true_or, or_true, eq_self, beq_self_eq_true, List.drop_succ_cons, List.drop_zero, swT, swL, hset_ap, not_true_eq_false, not_false_eq_true, true_implies, false_implies, implies_true, Int32.reduceLE, Int32.reduceLT, Int32.reduceAdd, Int32.reduceSub, Int32.reduceOfInt, Int32.reduceToNatClampNeg, i10, i01, Nat.add_left_cancel_iff, Nat.left_eq_add, Nat.add_eq_left, cdX11_than, F1]
      have := fin h' v m' f o
      rw [if_pos db] at this; exact this
    · rw [if_neg db]
      refine go_ok okF1 (C := cdX11_than) (by rfl) [203] 60 (by exact Nat.le_of_ble_eq_true rfl) ?_
      simp (maxSteps := 2000000) only [go, stp, inS, ↓reduceIte, Bool.false_eq_true, Nat.reduceLT, Nat.reduceEqDiff, Nat.reduceAdd, ldI, ldL, ldA, st1, st2, okS, List.getElem?_cons_zero, List.getElem?_cons_succ, List.length_cons, List.length_nil, List.set_cons_zero, List.set_cons_succ, callP, callF, popN, ct, Value.category, cI, List.getD_cons_zero, List.getD_cons_succ, and_self, and_true, true_and, Nat.zero_le, Nat.reduceLeDiff, Nat.add_zero, Nat.zero_add, List.nil_append, List.cons_append, Option.toList_some, Option.toList_none, List.append_nil, hset_ss, true_or, or_true, eq_self, beq_self_eq_true, List.drop_succ_cons, List.drop_zero, swT, swL, hset_ap, not_true_eq_false, not_false_eq_true, true_implies, false_implies, implies_true, Int32.reduceLE, Int32.reduceLT, Int32.reduceAdd, Int32.reduceSub, Int32.reduceOfInt, Int32.reduceToNatClampNeg, i10, i01, Nat.add_left_cancel_iff, Nat.left_eq_add, Nat.add_eq_left, cdX11_than, F1, (show eI true = 1 from rfl), m'.o, m'.a22, i_cl (show k < 2147483648 by omega), a22, (show ¬ (61 : Int32) = 60 by decide), (show ¬ (61 : Int32) = 62 by decide)]
      repeat refine ⟨vp_in_nI (by omega) (by omega), ?_⟩
      have := fin h' v m' f o
      rw [if_neg db] at this
      exact than_rest (eng := true) hk a22 hc m' hn this
  by_cases p4 : P4 g x y τ2
  · have p4' := p4
    obtain ⟨rfl, hnn, rfl, hco⟩ := p4'
    obtain rfl : nn = 0 := by
      rcases hn with q | q
      · exact absurd q.2 hnn
      · exact q.1
    have k3 : ¬ 3 ≤ kdK τ2 := i_nle.mpr (kr1.mpr hco)
    have fin := fun h' v m' (f : fiN c true v (fun j => j = 4)) o => hq h' v m' (f.one (fun j => by rw [FC_iff]; exact ⟨fun w => w.elim (fun w => absurd w.2.1 (by decide)) (fun w => w.elim (fun w => w.1) (fun w => absurd w.2.1 (by decide))), fun w => Or.inr (Or.inl ⟨w, p4⟩)⟩)) o
    rw [vC_4 p4, dd] at fin
    refine go_ok okF1 (C := cdX11_than) (by rfl) [145] 60 (by exact Nat.le_of_ble_eq_true rfl) ?_
    simp (maxSteps := 2000000) only [go, stp, inS, ↓reduceIte, Bool.false_eq_true, Nat.reduceLT, Nat.reduceEqDiff, Nat.reduceAdd, ldI, ldL, ldA, st1, st2, okS, List.getElem?_cons_zero, List.getElem?_cons_succ, List.length_cons, List.length_nil, List.set_cons_zero, List.set_cons_succ, callP, callF, popN, ct, Value.category, cI, List.getD_cons_zero, List.getD_cons_succ, and_self, and_true, true_and, Nat.zero_le, Nat.reduceLeDiff, Nat.add_zero, Nat.zero_add, List.nil_append, List.cons_append, Option.toList_some, Option.toList_none, List.append_nil, hset_ss, true_or, or_true, eq_self, beq_self_eq_true, List.drop_succ_cons, List.drop_zero, swT, swL, hset_ap, not_true_eq_false, not_false_eq_true, true_implies, false_implies, implies_true, Int32.reduceLE, Int32.reduceLT, Int32.reduceAdd, Int32.reduceSub, Int32.reduceOfInt, Int32.reduceToNatClampNeg, i10, i01, Nat.add_left_cancel_iff, Nat.left_eq_add, Nat.add_eq_left, cdX11_than, F1, (show eI true = 1 from rfl), m.o, m.a22, m.a24, i_cl (show k < 2147483648 by omega), a22, a24, (show ¬ (60 : Int32) = 61 by decide), k3]
    repeat refine ⟨vp_in_nI (by omega) (by omega), ?_⟩
    refine D_done m (i := 4) (by omega) (fun h' v m' f o => ?_)
    by_cases db : bt (c 28 &&& c 29) 4 = true
    · rw [if_pos db]
      refine go_ok okF1 (C := cdX11_than) (by rfl) [] 60 (by exact Nat.le_of_ble_eq_true rfl) ?_
      simp (maxSteps := 2000000) only [go, stp, inS, ↓reduceIte, Bool.false_eq_true, Nat.reduceLT, Nat.reduceEqDiff, Nat.reduceAdd, ldI, ldL, ldA, st1, st2, okS, List.getElem?_cons_zero, List.getElem?_cons_succ, List.length_cons, List.length_nil, List.set_cons_zero, List.set_cons_succ, callP, callF, popN, ct, Value.category, cI, List.getD_cons_zero, List.getD_cons_succ, and_self, and_true, true_and, Nat.zero_le, Nat.reduceLeDiff, Nat.add_zero, Nat.zero_add, List.nil_append, List.cons_append, Option.toList_some, Option.toList_none, List.append_nil, hset_ss, true_or, or_true, eq_self, beq_self_eq_true, List.drop_succ_cons, List.drop_zero, swT, swL, hset_ap, not_true_eq_false, not_false_eq_true, true_implies, false_implies, implies_true, Int32.reduceLE, Int32.reduceLT, Int32.reduceAdd, Int32.reduceSub, Int32.reduceOfInt, Int32.reduceToNatClampNeg, i10, i01, Nat.add_left_cancel_iff, Nat.left_eq_add, Nat.add_eq_left, cdX11_than, F1]
      have := fin h' v m' f o
      rw [if_pos db] at this; exact this
    · rw [if_neg db]
      refine go_ok okF1 (C := cdX11_than) (by rfl) [203] 60 (by exact Nat.le_of_ble_eq_true rfl) ?_
      simp (maxSteps := 2000000) only [go, stp, inS, ↓reduceIte, Bool.false_eq_true, Nat.reduceLT, Nat.reduceEqDiff, Nat.reduceAdd, ldI, ldL, ldA, st1, st2, okS, List.getElem?_cons_zero, List.getElem?_cons_succ, List.length_cons, List.length_nil, List.set_cons_zero, List.set_cons_succ, callP, callF, popN, ct, Value.category, cI, List.getD_cons_zero, List.getD_cons_succ, and_self, and_true, true_and, Nat.zero_le, Nat.reduceLeDiff, Nat.add_zero, Nat.zero_add, List.nil_append, List.cons_append, Option.toList_some, Option.toList_none, List.append_nil, hset_ss, true_or, or_true, eq_self, beq_self_eq_true, List.drop_succ_cons, List.drop_zero, swT, swL, hset_ap, not_true_eq_false, not_false_eq_true, true_implies, false_implies, implies_true, Int32.reduceLE, Int32.reduceLT, Int32.reduceAdd, Int32.reduceSub, Int32.reduceOfInt, Int32.reduceToNatClampNeg, i10, i01, Nat.add_left_cancel_iff, Nat.left_eq_add, Nat.add_eq_left, cdX11_than, F1, (show eI true = 1 from rfl), m'.o, m'.a22, i_cl (show k < 2147483648 by omega), a22, (show ¬ (60 : Int32) = 62 by decide)]
      repeat refine ⟨vp_in_nI (by omega) (by omega), ?_⟩
      have := fin h' v m' f o
      rw [if_neg db] at this
      exact than_rest (eng := true) hk a22 hc m' hn this
  by_cases p6 : P6 g x y τ1 τ2
  · have p6' := p6
    obtain ⟨rfl, hnn, hxy, hco, hto⟩ := p6'
    obtain rfl : nn = 0 := by
      rcases hn with q | q
      · exact absurd q.2 hnn
      · exact q.1
    have k3 : ¬ 3 ≤ kdK τ1 := i_nle.mpr (kl1.mpr hco)
    have k4 : kdK τ2 = 3 := kr2.mpr hto
    have k5 : ¬ y ≤ x := i_nle.mpr hxy
    have fin := fun h' v m' (f : fiN c true v (fun j => j = 6)) o => hq h' v m' (f.one (fun j => by rw [FC_iff]; exact ⟨fun w => w.elim (fun w => absurd w.2.1 (by decide)) (fun w => w.elim (fun w => absurd w.2.1 (by decide)) (fun w => w.1)), fun w => Or.inr (Or.inr ⟨w, p6⟩)⟩)) o
    rw [vC_6 p6, dd] at fin
    refine go_ok okF1 (C := cdX11_than) (by rfl) [203] 60 (by exact Nat.le_of_ble_eq_true rfl) ?_
    simp (maxSteps := 2000000) only [go, stp, inS, ↓reduceIte, Bool.false_eq_true, Nat.reduceLT, Nat.reduceEqDiff, Nat.reduceAdd, ldI, ldL, ldA, st1, st2, okS, List.getElem?_cons_zero, List.getElem?_cons_succ, List.length_cons, List.length_nil, List.set_cons_zero, List.set_cons_succ, callP, callF, popN, ct, Value.category, cI, List.getD_cons_zero, List.getD_cons_succ, and_self, and_true, true_and, Nat.zero_le, Nat.reduceLeDiff, Nat.add_zero, Nat.zero_add, List.nil_append, List.cons_append, Option.toList_some, Option.toList_none, List.append_nil, hset_ss, true_or, or_true, eq_self, beq_self_eq_true, List.drop_succ_cons, List.drop_zero, swT, swL, hset_ap, not_true_eq_false, not_false_eq_true, true_implies, false_implies, implies_true, Int32.reduceLE, Int32.reduceLT, Int32.reduceAdd, Int32.reduceSub, Int32.reduceOfInt, Int32.reduceToNatClampNeg, i10, i01, Nat.add_left_cancel_iff, Nat.left_eq_add, Nat.add_eq_left, cdX11_than, F1, (show eI true = 1 from rfl), m.o, m.a22, m.a23, m.a24, i_cl (show k < 2147483648 by omega), a22, a23, a24, (show ¬ (62 : Int32) = 61 by decide), (show ¬ (62 : Int32) = 60 by decide), k3, k4, k5]
    repeat refine ⟨vp_in_nI (by omega) (by omega), ?_⟩
    refine D_done m (i := 6) (by omega) (fun h' v m' f o => ?_)
    by_cases db : bt (c 28 &&& c 29) 6 = true
    · rw [if_pos db]
      refine go_ok okF1 (C := cdX11_than) (by rfl) [] 60 (by exact Nat.le_of_ble_eq_true rfl) ?_
      simp (maxSteps := 2000000) only [go, stp, inS, ↓reduceIte, Bool.false_eq_true, Nat.reduceLT, Nat.reduceEqDiff, Nat.reduceAdd, ldI, ldL, ldA, st1, st2, okS, List.getElem?_cons_zero, List.getElem?_cons_succ, List.length_cons, List.length_nil, List.set_cons_zero, List.set_cons_succ, callP, callF, popN, ct, Value.category, cI, List.getD_cons_zero, List.getD_cons_succ, and_self, and_true, true_and, Nat.zero_le, Nat.reduceLeDiff, Nat.add_zero, Nat.zero_add, List.nil_append, List.cons_append, Option.toList_some, Option.toList_none, List.append_nil, hset_ss, true_or, or_true, eq_self, beq_self_eq_true, List.drop_succ_cons, List.drop_zero, swT, swL, hset_ap, not_true_eq_false, not_false_eq_true, true_implies, false_implies, implies_true, Int32.reduceLE, Int32.reduceLT, Int32.reduceAdd, Int32.reduceSub, Int32.reduceOfInt, Int32.reduceToNatClampNeg, i10, i01, Nat.add_left_cancel_iff, Nat.left_eq_add, Nat.add_eq_left, cdX11_than, F1]
      have := fin h' v m' f o
      rw [if_pos db] at this; exact this
    · rw [if_neg db]
      refine go_ok okF1 (C := cdX11_than) (by rfl) [203] 60 (by exact Nat.le_of_ble_eq_true rfl) ?_
      simp (maxSteps := 2000000) only [go, stp, inS, ↓reduceIte, Bool.false_eq_true, Nat.reduceLT, Nat.reduceEqDiff, Nat.reduceAdd, ldI, ldL, ldA, st1, st2, okS, List.getElem?_cons_zero, List.getElem?_cons_succ, List.length_cons, List.length_nil, List.set_cons_zero, List.set_cons_succ, callP, callF, popN, ct, Value.category, cI, List.getD_cons_zero, List.getD_cons_succ, and_self, and_true, true_and, Nat.zero_le, Nat.reduceLeDiff, Nat.add_zero, Nat.zero_add, List.nil_append, List.cons_append, Option.toList_some, Option.toList_none, List.append_nil, hset_ss, true_or, or_true, eq_self, beq_self_eq_true, List.drop_succ_cons, List.drop_zero, swT, swL, hset_ap, not_true_eq_false, not_false_eq_true, true_implies, false_implies, implies_true, Int32.reduceLE, Int32.reduceLT, Int32.reduceAdd, Int32.reduceSub, Int32.reduceOfInt, Int32.reduceToNatClampNeg, i10, i01, Nat.add_left_cancel_iff, Nat.left_eq_add, Nat.add_eq_left, cdX11_than, F1]
      have := fin h' v m' f o
      rw [if_neg db] at this
      exact than_rest (eng := true) hk a22 hc m' hn this
  have fin := hq h (c 30) (by rw [upd_me]; exact m) (fiN.no (fun j _ q => by
    rw [FC_iff] at q
    rcases q with q | q | q
    · exact p1 q.2
    · exact p4 q.2
    · exact p6 q.2)) sOff.rf
  rw [vC_0 hc p1 p4 p6] at fin
  have go203 : A z 187 n 0 0 h 203 [some (.ref 52), some (.int (nI k)), some (.int (nI r)), some (.int (eI true)), some (.int x), some (.int y), some (.int nn), none] [] Q := than_rest (eng := true) hk a22 hc m hn fin
  rcases hc with rfl | rfl | rfl
  · refine go_ok okF1 (C := cdX11_than) (by rfl) [203] 60 (by exact Nat.le_of_ble_eq_true rfl) ?_
    simp (maxSteps := 2000000) only [go, stp, inS, ↓reduceIte, Bool.false_eq_true, Nat.reduceLT, Nat.reduceEqDiff, Nat.reduceAdd, ldI, ldL, ldA, st1, st2, okS, List.getElem?_cons_zero, List.getElem?_cons_succ, List.length_cons, List.length_nil, List.set_cons_zero, List.set_cons_succ, callP, callF, popN, ct, Value.category, cI, List.getD_cons_zero, List.getD_cons_succ, and_self, and_true, true_and, Nat.zero_le, Nat.reduceLeDiff, Nat.add_zero, Nat.zero_add, List.nil_append, List.cons_append, Option.toList_some, Option.toList_none, List.append_nil, hset_ss, true_or, or_true, eq_self, beq_self_eq_true, List.drop_succ_cons, List.drop_zero, swT, swL, hset_ap, not_true_eq_false, not_false_eq_true, true_implies, false_implies, implies_true, Int32.reduceLE, Int32.reduceLT, Int32.reduceAdd, Int32.reduceSub, Int32.reduceOfInt, Int32.reduceToNatClampNeg, i10, i01, Nat.add_left_cancel_iff, Nat.left_eq_add, Nat.add_eq_left, cdX11_than, F1, (show eI true = 1 from rfl), m.o, m.a22, m.a24, i_cl (show k < 2147483648 by omega), a22, a24, (show ¬ (60 : Int32) = 61 by decide), (show ¬ (60 : Int32) = 62 by decide)]
    repeat refine ⟨vp_in_nI (by omega) (by omega), ?_⟩
    have hnn : nn = 0 → ¬ (x = -100 ∨ y = -100) := fun e => by
      rcases hn with q | q
      · rw [e] at q; exact absurd q.1 (by decide)
      · exact q.2
    exact ⟨fun c1 => ⟨vp_in_nI (by omega) (by omega), go203⟩, fun c1 => ⟨fun c2 => ⟨vp_in_nI (by omega) (by omega), go203⟩, fun c2 => ⟨vp_in_nI (by omega) (by omega), fun c3 => ⟨vp_in_nI (by omega) (by omega), go203⟩, fun c3 => absurd ⟨rfl, hnn c1, c2, kr1.mp (i_nle.mp c3)⟩ p4⟩⟩⟩
  · refine go_ok okF1 (C := cdX11_than) (by rfl) [203] 60 (by exact Nat.le_of_ble_eq_true rfl) ?_
    simp (maxSteps := 2000000) only [go, stp, inS, ↓reduceIte, Bool.false_eq_true, Nat.reduceLT, Nat.reduceEqDiff, Nat.reduceAdd, ldI, ldL, ldA, st1, st2, okS, List.getElem?_cons_zero, List.getElem?_cons_succ, List.length_cons, List.length_nil, List.set_cons_zero, List.set_cons_succ, callP, callF, popN, ct, Value.category, cI, List.getD_cons_zero, List.getD_cons_succ, and_self, and_true, true_and, Nat.zero_le, Nat.reduceLeDiff, Nat.add_zero, Nat.zero_add, List.nil_append, List.cons_append, Option.toList_some, Option.toList_none, List.append_nil, hset_ss, true_or, or_true, eq_self, beq_self_eq_true, List.drop_succ_cons, List.drop_zero, swT, swL, hset_ap, not_true_eq_false, not_false_eq_true, true_implies, false_implies, implies_true, Int32.reduceLE, Int32.reduceLT, Int32.reduceAdd, Int32.reduceSub, Int32.reduceOfInt, Int32.reduceToNatClampNeg, i10, i01, Nat.add_left_cancel_iff, Nat.left_eq_add, Nat.add_eq_left, cdX11_than, F1, (show eI true = 1 from rfl), m.o, m.a22, i_cl (show k < 2147483648 by omega), a22, (show ¬ (61 : Int32) = 60 by decide), (show ¬ (61 : Int32) = 62 by decide)]
    repeat refine ⟨vp_in_nI (by omega) (by omega), ?_⟩
    exact ⟨fun c1 => ⟨vp_in_nI (by omega) (by omega), vp_in_nI (by omega) (by omega), go203⟩, fun c1 => ⟨fun c2 => ⟨vp_in_nI (by omega) (by omega), vp_in_nI (by omega) (by omega), go203⟩, fun c2 => absurd ⟨rfl, c1, c2⟩ p1⟩⟩
  · refine go_ok okF1 (C := cdX11_than) (by rfl) [203] 60 (by exact Nat.le_of_ble_eq_true rfl) ?_
    simp (maxSteps := 2000000) only [go, stp, inS, ↓reduceIte, Bool.false_eq_true, Nat.reduceLT, Nat.reduceEqDiff, Nat.reduceAdd, ldI, ldL, ldA, st1, st2, okS, List.getElem?_cons_zero, List.getElem?_cons_succ, List.length_cons, List.length_nil, List.set_cons_zero, List.set_cons_succ, callP, callF, popN, ct, Value.category, cI, List.getD_cons_zero, List.getD_cons_succ, and_self, and_true, true_and, Nat.zero_le, Nat.reduceLeDiff, Nat.add_zero, Nat.zero_add, List.nil_append, List.cons_append, Option.toList_some, Option.toList_none, List.append_nil, hset_ss, true_or, or_true, eq_self, beq_self_eq_true, List.drop_succ_cons, List.drop_zero, swT, swL, hset_ap, not_true_eq_false, not_false_eq_true, true_implies, false_implies, implies_true, Int32.reduceLE, Int32.reduceLT, Int32.reduceAdd, Int32.reduceSub, Int32.reduceOfInt, Int32.reduceToNatClampNeg, i10, i01, Nat.add_left_cancel_iff, Nat.left_eq_add, Nat.add_eq_left, cdX11_than, F1, (show eI true = 1 from rfl), m.o, m.a22, m.a23, m.a24, i_cl (show k < 2147483648 by omega), a22, a23, a24, (show ¬ (62 : Int32) = 61 by decide), (show ¬ (62 : Int32) = 60 by decide)]
    repeat refine ⟨vp_in_nI (by omega) (by omega), ?_⟩
    have hnn : nn = 0 → ¬ (x = -100 ∨ y = -100) := fun e => by
      rcases hn with q | q
      · rw [e] at q; exact absurd q.1 (by decide)
      · exact q.2
    exact ⟨fun c1 => go203, fun c1 => ⟨vp_in_nI (by omega) (by omega), fun c2 => go203, fun c2 => ⟨vp_in_nI (by omega) (by omega), fun c3 => go203, fun c3 => ⟨fun c4 => go203, fun c4 => absurd ⟨rfl, hnn c1, i_nle.mp c4, kl1.mp (i_nle.mp c2), kr2.mp c3⟩ p6⟩⟩⟩⟩
set_option maxRecDepth 100000 in
set_option maxHeartbeats 400000 in
theorem D_than {k r : Nat} {eng : Bool} (m : MH h c a l) (hA : lyA a G L R N) (hN : N ≤ 100) (hk : k < N) (hc : isCm (G k)) (hr : r < 8)
    (hq : ∀ h' v, MH h' (upd c 30 v) a l → fiN c eng v (fun j => FC j (G k) (L k) (R k) (tv (a 8) r (L k)) (tv (a 8) r (R k))) → sOff h h' 52 80 → Q (some (.int (nI (vC (bt (dnE c eng)) (G k) (L k) (R k) (tv (a 8) r (L k)) (tv (a 8) r (R k)))))) n h') : Ok 187 [.ref 52, .int (nI k), .int (nI r), .int (eI eng)] n h Q := by
  obtain ⟨a22, h2⟩ := hA k hk
  obtain ⟨⟨a23, a24, a25, a26⟩, tl, tr⟩ := h2 hc
  obtain ⟨kl1, kl2⟩ := kd_lt tl
  obtain ⟨kr1, kr2⟩ := kd_lt tr
  refine ok_of kMX11_than kCX11_than (Nat.le_of_ble_eq_true rfl) (fun z => ?_)
  change A z _ _ 0 0 _ 0 [some (.ref 52), some (.int (nI k)), some (.int (nI r)), some (.int (eI eng)), none, none, none, none] [] _
  refine go_ok okF1 (C := cdX11_than) (by rfl) [] 40 (by exact Nat.le_of_ble_eq_true rfl) ?_
  simp (maxSteps := 2000000) only [go, stp, inS, ↓reduceIte, Bool.false_eq_true, Nat.reduceLT, Nat.reduceEqDiff, Nat.reduceAdd, ldI, ldL, ldA, st1, st2, okS, List.getElem?_cons_zero, List.getElem?_cons_succ, List.length_cons, List.length_nil, List.set_cons_zero, List.set_cons_succ, callP, callF, popN, ct, Value.category, cI, List.getD_cons_zero, List.getD_cons_succ, and_self, and_true, true_and, Nat.zero_le, Nat.reduceLeDiff, Nat.add_zero, Nat.zero_add, List.nil_append, List.cons_append, Option.toList_some, Option.toList_none, List.append_nil, hset_ss, true_or, or_true, eq_self, beq_self_eq_true, List.drop_succ_cons, List.drop_zero, swT, swL, hset_ap, not_true_eq_false, not_false_eq_true, true_implies, false_implies, implies_true, Int32.reduceLE, Int32.reduceLT, Int32.reduceAdd, Int32.reduceSub, Int32.reduceOfInt, Int32.reduceToNatClampNeg, i10, i01, Nat.add_left_cancel_iff, Nat.left_eq_add, Nat.add_eq_left, cdX11_than, F1, m.o, m.a23, m.a25, i_cl (show k < 2147483648 by omega), a23, a25]
  repeat refine ⟨vp_in_nI (by omega) (by omega), ?_⟩
  refine D_tv m tl hr ?_
  refine go_ok okF1 (C := cdX11_than) (by rfl) [] 40 (by exact Nat.le_of_ble_eq_true rfl) ?_
  simp (maxSteps := 2000000) only [go, stp, inS, ↓reduceIte, Bool.false_eq_true, Nat.reduceLT, Nat.reduceEqDiff, Nat.reduceAdd, ldI, ldL, ldA, st1, st2, okS, List.getElem?_cons_zero, List.getElem?_cons_succ, List.length_cons, List.length_nil, List.set_cons_zero, List.set_cons_succ, callP, callF, popN, ct, Value.category, cI, List.getD_cons_zero, List.getD_cons_succ, and_self, and_true, true_and, Nat.zero_le, Nat.reduceLeDiff, Nat.add_zero, Nat.zero_add, List.nil_append, List.cons_append, Option.toList_some, Option.toList_none, List.append_nil, hset_ss, true_or, or_true, eq_self, beq_self_eq_true, List.drop_succ_cons, List.drop_zero, swT, swL, hset_ap, not_true_eq_false, not_false_eq_true, true_implies, false_implies, implies_true, Int32.reduceLE, Int32.reduceLT, Int32.reduceAdd, Int32.reduceSub, Int32.reduceOfInt, Int32.reduceToNatClampNeg, i10, i01, Nat.add_left_cancel_iff, Nat.left_eq_add, Nat.add_eq_left, cdX11_than, F1, m.o, m.a24, m.a26, i_cl (show k < 2147483648 by omega), a24, a26]
  repeat refine ⟨vp_in_nI (by omega) (by omega), ?_⟩
  refine D_tv m tr hr ?_
  generalize tv (a 8) r (L k) = x at hq ⊢
  generalize tv (a 8) r (R k) = y at hq ⊢
  generalize L k = τ1 at *
  generalize R k = τ2 at *
  generalize G k = g at *
  have at59 : ∀ (nn : Int32), (nn = 1 ∧ (x = -100 ∨ y = -100) ∨ nn = 0 ∧ ¬ (x = -100 ∨ y = -100)) → A z 187 n 0 0 h 59 [some (.ref 52), some (.int (nI k)), some (.int (nI r)), some (.int (eI eng)), some (.int x), some (.int y), some (.int nn), none] [] Q := by
    intro nn hn
    cases eng with
    | false => exact than_f (by omega) a22 a23 a24 kl1 kr1 kr2 hc m hn hq
    | true => exact than_t (by omega) a22 a23 a24 kl1 kr1 kr2 hc m hn hq
  by_cases ex : x = -100
  · refine go_ok okF1 (C := cdX11_than) (by rfl) [59] 60 (by exact Nat.le_of_ble_eq_true rfl) ?_
    simp (maxSteps := 2000000) only [go, stp, inS, ↓reduceIte, Bool.false_eq_true, Nat.reduceLT, Nat.reduceEqDiff, Nat.reduceAdd, ldI, ldL, ldA, st1, st2, okS, List.getElem?_cons_zero, List.getElem?_cons_succ, List.length_cons, List.length_nil, List.set_cons_zero, List.set_cons_succ, callP, callF, popN, ct, Value.category, cI, List.getD_cons_zero, List.getD_cons_succ, and_self, and_true, true_and, Nat.zero_le, Nat.reduceLeDiff, Nat.add_zero, Nat.zero_add, List.nil_append, List.cons_append, Option.toList_some, Option.toList_none, List.append_nil, hset_ss, true_or, or_true, eq_self, beq_self_eq_true, List.drop_succ_cons, List.drop_zero, swT, swL, hset_ap, not_true_eq_false, not_false_eq_true, true_implies, false_implies, implies_true, Int32.reduceLE, Int32.reduceLT, Int32.reduceAdd, Int32.reduceSub, Int32.reduceOfInt, Int32.reduceToNatClampNeg, i10, i01, Nat.add_left_cancel_iff, Nat.left_eq_add, Nat.add_eq_left, cdX11_than, F1, eq_true ex]
    exact at59 1 (Or.inl ⟨rfl, Or.inl ex⟩)
  · by_cases ey : y = -100
    · refine go_ok okF1 (C := cdX11_than) (by rfl) [59] 60 (by exact Nat.le_of_ble_eq_true rfl) ?_
      simp (maxSteps := 2000000) only [go, stp, inS, ↓reduceIte, Bool.false_eq_true, Nat.reduceLT, Nat.reduceEqDiff, Nat.reduceAdd, ldI, ldL, ldA, st1, st2, okS, List.getElem?_cons_zero, List.getElem?_cons_succ, List.length_cons, List.length_nil, List.set_cons_zero, List.set_cons_succ, callP, callF, popN, ct, Value.category, cI, List.getD_cons_zero, List.getD_cons_succ, and_self, and_true, true_and, Nat.zero_le, Nat.reduceLeDiff, Nat.add_zero, Nat.zero_add, List.nil_append, List.cons_append, Option.toList_some, Option.toList_none, List.append_nil, hset_ss, true_or, or_true, eq_self, beq_self_eq_true, List.drop_succ_cons, List.drop_zero, swT, swL, hset_ap, not_true_eq_false, not_false_eq_true, true_implies, false_implies, implies_true, Int32.reduceLE, Int32.reduceLT, Int32.reduceAdd, Int32.reduceSub, Int32.reduceOfInt, Int32.reduceToNatClampNeg, i10, i01, Nat.add_left_cancel_iff, Nat.left_eq_add, Nat.add_eq_left, cdX11_than, F1, ex, eq_true ey]
      exact at59 1 (Or.inl ⟨rfl, Or.inr ey⟩)
    · refine go_ok okF1 (C := cdX11_than) (by rfl) [59] 60 (by exact Nat.le_of_ble_eq_true rfl) ?_
      simp (maxSteps := 2000000) only [go, stp, inS, ↓reduceIte, Bool.false_eq_true, Nat.reduceLT, Nat.reduceEqDiff, Nat.reduceAdd, ldI, ldL, ldA, st1, st2, okS, List.getElem?_cons_zero, List.getElem?_cons_succ, List.length_cons, List.length_nil, List.set_cons_zero, List.set_cons_succ, callP, callF, popN, ct, Value.category, cI, List.getD_cons_zero, List.getD_cons_succ, and_self, and_true, true_and, Nat.zero_le, Nat.reduceLeDiff, Nat.add_zero, Nat.zero_add, List.nil_append, List.cons_append, Option.toList_some, Option.toList_none, List.append_nil, hset_ss, true_or, or_true, eq_self, beq_self_eq_true, List.drop_succ_cons, List.drop_zero, swT, swL, hset_ap, not_true_eq_false, not_false_eq_true, true_implies, false_implies, implies_true, Int32.reduceLE, Int32.reduceLT, Int32.reduceAdd, Int32.reduceSub, Int32.reduceOfInt, Int32.reduceToNatClampNeg, i10, i01, Nat.add_left_cancel_iff, Nat.left_eq_add, Nat.add_eq_left, cdX11_than, F1, ex, ey]
      exact at59 0 (Or.inr ⟨rfl, fun q => q.elim ex ey⟩)
end MV
