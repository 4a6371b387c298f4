
def wrI (f : Nat → Int32) (fm : Int32) (I : Nat → Int64) (k q : Nat) : Int64 := if q < k then nwF fm (f q).toInt64 else I q
def mnN (a b : Nat) : Nat := if a < b then a else b
def stWrite (M : MS) (x : Int32) : Int32 × MS := if 0 ≤ x ∧ x < 4 then (if M.fm x.toNatClampNeg = -1 then (-11, fdM M 1) else (nI (mnN (M.nr * 3) (M.sz x.toNatClampNeg)), shM M x.toNatClampNeg (wrI M.f (M.fm x.toNatClampNeg) (M.I x.toNatClampNeg) (mnN (M.nr * 3) (M.sz x.toNatClampNeg))) (M.fm x.toNatClampNeg) (M.sz x.toNatClampNeg))) else (-2, M)
section C5
variable {n : Nat} {h : aH} {Q : aQ} {M : MS}
set_option maxRecDepth 100000 in
set_option maxHeartbeats 400000 in
theorem K_write {x : Int32} (c : CInv h M) (m : MOk M) (hq : ∀ h', CInv h' (stWrite M x).2 → sOff h h' 0 52 → Q (some (.int (stWrite M x).1)) n h') : Ok 118 [.ref 0, .int x] n h Q := by
  unfold stWrite at hq
  refine ok_of kMX10_write kCX10_write (Nat.le_of_ble_eq_true rfl) (fun z => ?_)
  change A z _ _ 0 0 _ 0 [some (.ref 0), some (.int x), none, none, none] [] _
  refine go_ok okF1 (C := cdX10_write) (by rfl) [] 40 (by exact Nat.le_of_ble_eq_true rfl) ?_
  simp (maxSteps := 2000000) only [go, stp, inS, ↓reduceIte, Bool.false_eq_true, Nat.reduceLT, Nat.reduceEqDiff, Nat.reduceAdd, ldI, ldL, ldA, st1, st2, okS, List.getElem?_cons_zero, List.getElem?_cons_succ, List.length_cons, List.length_nil, List.set_cons_zero, List.set_cons_succ, callP, callF, popN, ct, Value.category, cI, List.getD_cons_zero, List.getD_cons_succ, and_self, and_true, true_and, Nat.zero_le, Nat.reduceLeDiff, Nat.add_zero, Nat.zero_add, List.nil_append, List.cons_append, Option.toList_some, Option.toList_none, List.append_nil, hset_ss, true_or, or_true, eq_self, beq_self_eq_true, List.drop_succ_cons, List.drop_zero, swT, swL, hset_ap, not_true_eq_false, not_false_eq_true, true_implies, false_implies, implies_true, Int32.reduceLE, Int32.reduceLT, Int32.reduceAdd, Int32.reduceSub, Int32.reduceOfInt, Int32.reduceToNatClampNeg, i10, i01, Nat.add_left_cancel_iff, Nat.left_eq_add, Nat.add_eq_left, cdX10_write, F1, c.o]
  refine K_sheetOf c (fun s hs e => ?_) (fun e => ?_)
  · subst e
    rw [if_pos (t4 hs), i_cl (show s < 2147483648 by omega)] at hq
    have hS := c.sh s hs
    have hz := m.sz s hs
    have hnr := m.nr
    obtain ⟨sE, hT, hE⟩ := c.tb
    refine go_ok okF1 (C := cdX10_write) (by rfl) [] 40 (by exact Nat.le_of_ble_eq_true rfl) ?_
    simp (maxSteps := 2000000) only [go, stp, inS, ↓reduceIte, Bool.false_eq_true, Nat.reduceLT, Nat.reduceEqDiff, Nat.reduceAdd, ldI, ldL, ldA, st1, st2, okS, List.getElem?_cons_zero, List.getElem?_cons_succ, List.length_cons, List.length_nil, List.set_cons_zero, List.set_cons_succ, callP, callF, popN, ct, Value.category, cI, List.getD_cons_zero, List.getD_cons_succ, and_self, and_true, true_and, Nat.zero_le, Nat.reduceLeDiff, Nat.add_zero, Nat.zero_add, List.nil_append, List.cons_append, Option.toList_some, Option.toList_none, List.append_nil, hset_ss, true_or, or_true, eq_self, beq_self_eq_true, List.drop_succ_cons, List.drop_zero, swT, swL, hset_ap, not_true_eq_false, not_false_eq_true, true_implies, false_implies, implies_true, Int32.reduceLE, Int32.reduceLT, Int32.reduceAdd, Int32.reduceSub, Int32.reduceOfInt, Int32.reduceToNatClampNeg, i10, i01, Nat.add_left_cancel_iff, Nat.left_eq_add, Nat.add_eq_left, cdX10_write, F1, hS.1]
    refine S_isLost hS ?_
    have e3 : nI M.nr * 3 = nI (M.nr * 3) := pk_mul M.nr 3
    have emin : (if nI (M.sz s) < nI (M.nr * 3) then nI (M.sz s) else nI (M.nr * 3)) = nI (mnN (M.nr * 3) (M.sz s)) := by
      unfold mnN
      by_cases c1 : M.sz s < M.nr * 3
      · rw [if_pos ((i_lt (by omega) (by omega)).mpr c1), if_neg (by omega)]
      · rw [if_neg (fun q => c1 ((i_lt (by omega) (by omega)).mp q))]
        by_cases c2 : M.nr * 3 < M.sz s
        · rw [if_pos c2]
        · rw [if_neg c2, show M.nr * 3 = M.sz s by omega]
    refine go_ok okF1 (C := cdX10_write) (by rfl) [46] 40 (by exact Nat.le_of_ble_eq_true rfl) ?_
    simp (maxSteps := 2000000) only [go, stp, inS, ↓reduceIte, Bool.false_eq_true, Nat.reduceLT, Nat.reduceEqDiff, Nat.reduceAdd, ldI, ldL, ldA, st1, st2, okS, List.getElem?_cons_zero, List.getElem?_cons_succ, List.length_cons, List.length_nil, List.set_cons_zero, List.set_cons_succ, callP, callF, popN, ct, Value.category, cI, List.getD_cons_zero, List.getD_cons_succ, and_self, and_true, true_and, Nat.zero_le, Nat.reduceLeDiff, Nat.add_zero, Nat.zero_add, List.nil_append, List.cons_append, Option.toList_some, Option.toList_none, List.append_nil, hset_ss, true_or, or_true, eq_self, beq_self_eq_true, List.drop_succ_cons, List.drop_zero, swT, swL, hset_ap, not_true_eq_false, not_false_eq_true, true_implies, false_implies, implies_true, Int32.reduceLE, Int32.reduceLT, Int32.reduceAdd, Int32.reduceSub, Int32.reduceOfInt, Int32.reduceToNatClampNeg, i10, i01, Nat.add_left_cancel_iff, Nat.left_eq_add, Nat.add_eq_left, cdX10_write, F1, ib0, c.o, hS.1, hT.1, e3, emin]
    refine ⟨fun c1 => ?_, fun c1 => ?_⟩
    · rw [if_neg c1] at hq
      have hk : mnN (M.nr * 3) (M.sz s) ≤ M.nr * 3 ∧ mnN (M.nr * 3) (M.sz s) ≤ M.sz s := by unfold mnN; split <;> omega
      generalize mnN (M.nr * 3) (M.sz s) = k at hq hk ⊢
      have loop : ∀ m' i (h' : aH) (J : Nat → Int64), i + m' = k → ShAt h' (44 + 2 * s) J (M.fm s) (M.sz s) → (∀ q, J q = wrI M.f (M.fm s) (M.I s) i q) → sOff h h' (44 + 2 * s) (44 + 2 * s + 2) → A z 118 n 0 0 h' 46 [some (.ref 0), some (.int (nI s)), some (.ref (44 + 2 * s)), some (.int (nI k)), some (.int (nI i))] [] Q := by
        intro m'
        induction m' with
        | zero =>
          intro i h' J hi hS' hJ hO
          have : i = k := by omega
          subst this
          refine go_ok okF1 (C := cdX10_write) (by rfl) [46] 40 (by exact Nat.le_of_ble_eq_true rfl) ?_
          simp (maxSteps := 2000000) only [go, stp, inS, ↓reduceIte, Bool.false_eq_true, Nat.reduceLT, Nat.reduceEqDiff, Nat.reduceAdd, ldI, ldL, ldA, st1, st2, okS, List.getElem?_cons_zero, List.getElem?_cons_succ, List.length_cons, List.length_nil, List.set_cons_zero, List.set_cons_succ, callP, callF, popN, ct, Value.category, cI, List.getD_cons_zero, List.getD_cons_succ, and_self, and_true, true_and, Nat.zero_le, Nat.reduceLeDiff, Nat.add_zero, Nat.zero_add, List.nil_append, List.cons_append, Option.toList_some, Option.toList_none, List.append_nil, hset_ss, true_or, or_true, eq_self, beq_self_eq_true, List.drop_succ_cons, List.drop_zero, swT, swL, hset_ap, not_true_eq_false, not_false_eq_true, true_implies, false_implies, implies_true, Int32.reduceLE, Int32.reduceLT, Int32.reduceAdd, Int32.reduceSub, Int32.reduceOfInt, Int32.reduceToNatClampNeg, i10, i01, Nat.add_left_cancel_iff, Nat.left_eq_add, Nat.add_eq_left, cdX10_write, F1, (show nI i ≤ nI i from (i_le (by omega) (by omega)).mpr (by omega))]
          rw [show J = wrI M.f (M.fm s) (M.I s) i from funext hJ] at hS'
          exact hq h' (CInv.uSh hs hS' c hO) (hO.w (by omega) (by omega))
        | succ m' ih =>
          intro i h' J hi hS' hJ hO
          have hlt : ¬ nI k ≤ nI i := by rw [i_le (by omega) (by omega)]; omega
          have c' := CInv.uSh hs hS' c hO
          have hT' : TbAt h' 1 8 M.f sE M.nr := hT.kept (fun q _ _ => hO q (by omega))
          have d3 : nI i / 3 = nI (i / 3) := pk_div (a := i) (d := 3) (by omega) (by omega) (by omega)
          have r3 : nI i - nI (i / 3) * 3 = nI (i % 3) := by rw [← d3]; exact pk_rem (a := i) (d := 3) (by omega) (by omega) (by omega)
          refine go_ok okF1 (C := cdX10_write) (by rfl) [46] 40 (by exact Nat.le_of_ble_eq_true rfl) ?_
          simp (maxSteps := 2000000) only [go, stp, inS, ↓reduceIte, Bool.false_eq_true, Nat.reduceLT, Nat.reduceEqDiff, Nat.reduceAdd, ldI, ldL, ldA, st1, st2, okS, List.getElem?_cons_zero, List.getElem?_cons_succ, List.length_cons, List.length_nil, List.set_cons_zero, List.set_cons_succ, callP, callF, popN, ct, Value.category, cI, List.getD_cons_zero, List.getD_cons_succ, and_self, and_true, true_and, Nat.zero_le, Nat.reduceLeDiff, Nat.add_zero, Nat.zero_add, List.nil_append, List.cons_append, Option.toList_some, Option.toList_none, List.append_nil, hset_ss, true_or, or_true, eq_self, beq_self_eq_true, List.drop_succ_cons, List.drop_zero, swT, swL, hset_ap, not_true_eq_false, not_false_eq_true, true_implies, false_implies, implies_true, Int32.reduceLE, Int32.reduceLT, Int32.reduceAdd, Int32.reduceSub, Int32.reduceOfInt, Int32.reduceToNatClampNeg, i10, i01, Nat.add_left_cancel_iff, Nat.left_eq_add, Nat.add_eq_left, cdX10_write, F1, hlt, c'.o, hT'.1, hS'.1, d3, r3]
          refine ⟨by decide, by decide, ?_⟩
          refine T_cell hT' hnr (by omega) ?_
          rw [cS_in (by omega) (by omega) (by omega), show i / 3 * 3 + i % 3 = i by omega]
          refine go_ok okF1 (C := cdX10_write) (by rfl) [46] 40 (by exact Nat.le_of_ble_eq_true rfl) ?_
          simp (maxSteps := 2000000) only [go, stp, inS, ↓reduceIte, Bool.false_eq_true, Nat.reduceLT, Nat.reduceEqDiff, Nat.reduceAdd, ldI, ldL, ldA, st1, st2, okS, List.getElem?_cons_zero, List.getElem?_cons_succ, List.length_cons, List.length_nil, List.set_cons_zero, List.set_cons_succ, callP, callF, popN, ct, Value.category, cI, List.getD_cons_zero, List.getD_cons_succ, and_self, and_true, true_and, Nat.zero_le, Nat.reduceLeDiff, Nat.add_zero, Nat.zero_add, List.nil_append, List.cons_append, Option.toList_some, Option.toList_none, List.append_nil, hset_ss, true_or, or_true, eq_self, beq_self_eq_true, List.drop_succ_cons, List.drop_zero, swT, swL, hset_ap, not_true_eq_false, not_false_eq_true, true_implies, false_implies, implies_true, Int32.reduceLE, Int32.reduceLT, Int32.reduceAdd, Int32.reduceSub, Int32.reduceOfInt, Int32.reduceToNatClampNeg, i10, i01, Nat.add_left_cancel_iff, Nat.left_eq_add, Nat.add_eq_left, cdX10_write, F1, hS'.1]
          refine S_change hS' hz (fun e => absurd ⟨(i_le (a := 0) (by omega) (by omega)).mpr (by omega), (i_lt (by omega) (by omega)).mpr (by omega)⟩ e) (fun j hj hij h2 hS2 hO2 => ?_)
          have hij : i = j := (i_eq (by omega) (by omega)).mp hij
          subst hij
          refine go_ok okF1 (C := cdX10_write) (by rfl) [46] 40 (by exact Nat.le_of_ble_eq_true rfl) ?_
          simp (maxSteps := 2000000) only [go, stp, inS, ↓reduceIte, Bool.false_eq_true, Nat.reduceLT, Nat.reduceEqDiff, Nat.reduceAdd, ldI, ldL, ldA, st1, st2, okS, List.getElem?_cons_zero, List.getElem?_cons_succ, List.length_cons, List.length_nil, List.set_cons_zero, List.set_cons_succ, callP, callF, popN, ct, Value.category, cI, List.getD_cons_zero, List.getD_cons_succ, and_self, and_true, true_and, Nat.zero_le, Nat.reduceLeDiff, Nat.add_zero, Nat.zero_add, List.nil_append, List.cons_append, Option.toList_some, Option.toList_none, List.append_nil, hset_ss, true_or, or_true, eq_self, beq_self_eq_true, List.drop_succ_cons, List.drop_zero, swT, swL, hset_ap, not_true_eq_false, not_false_eq_true, true_implies, false_implies, implies_true, Int32.reduceLE, Int32.reduceLT, Int32.reduceAdd, Int32.reduceSub, Int32.reduceOfInt, Int32.reduceToNatClampNeg, i10, i01, Nat.add_left_cancel_iff, Nat.left_eq_add, Nat.add_eq_left, cdX10_write, F1, nI_1]
          refine ih (i + 1) h2 _ (by omega) hS2 (fun q => ?_) (hO.tr hO2)
          unfold wrI
          by_cases hqi : q = i
          · subst hqi; rw [pk_uLs, if_pos (by omega)]
          · rw [pk_uLn hqi, hJ q]; unfold wrI
            by_cases c2 : q < i
            · rw [if_pos c2, if_pos (by omega)]
            · rw [if_neg c2, if_neg (by omega)]
      exact loop k 0 h (M.I s) (by omega) hS (fun q => by unfold wrI; rw [if_neg (by omega)]) sOff.rf
    · rw [if_pos (Classical.not_not.mp c1)] at hq
      refine K_found c (fun h' c' hO => ?_)
      refine go_ok okF1 (C := cdX10_write) (by rfl) [] 40 (by exact Nat.le_of_ble_eq_true rfl) ?_
      simp (maxSteps := 2000000) only [go, stp, inS, ↓reduceIte, Bool.false_eq_true, Nat.reduceLT, Nat.reduceEqDiff, Nat.reduceAdd, ldI, ldL, ldA, st1, st2, okS, List.getElem?_cons_zero, List.getElem?_cons_succ, List.length_cons, List.length_nil, List.set_cons_zero, List.set_cons_succ, callP, callF, popN, ct, Value.category, cI, List.getD_cons_zero, List.getD_cons_succ, and_self, and_true, true_and, Nat.zero_le, Nat.reduceLeDiff, Nat.add_zero, Nat.zero_add, List.nil_append, List.cons_append, Option.toList_some, Option.toList_none, List.append_nil, hset_ss, true_or, or_true, eq_self, beq_self_eq_true, List.drop_succ_cons, List.drop_zero, swT, swL, hset_ap, not_true_eq_false, not_false_eq_true, true_implies, false_implies, implies_true, Int32.reduceLE, Int32.reduceLT, Int32.reduceAdd, Int32.reduceSub, Int32.reduceOfInt, Int32.reduceToNatClampNeg, i10, i01, Nat.add_left_cancel_iff, Nat.left_eq_add, Nat.add_eq_left, cdX10_write, F1]
      exact hq h' c' (hO.w (by omega) (by omega))
  · refine go_ok okF1 (C := cdX10_write) (by rfl) [] 40 (by exact Nat.le_of_ble_eq_true rfl) ?_
    simp (maxSteps := 2000000) only [go, stp, inS, ↓reduceIte, Bool.false_eq_true, Nat.reduceLT, Nat.reduceEqDiff, Nat.reduceAdd, ldI, ldL, ldA, st1, st2, okS, List.getElem?_cons_zero, List.getElem?_cons_succ, List.length_cons, List.length_nil, List.set_cons_zero, List.set_cons_succ, callP, callF, popN, ct, Value.category, cI, List.getD_cons_zero, List.getD_cons_succ, and_self, and_true, true_and, Nat.zero_le, Nat.reduceLeDiff, Nat.add_zero, Nat.zero_add, List.nil_append, List.cons_append, Option.toList_some, Option.toList_none, List.append_nil, hset_ss, true_or, or_true, eq_self, beq_self_eq_true, List.drop_succ_cons, List.drop_zero, swT, swL, hset_ap, not_true_eq_false, not_false_eq_true, true_implies, false_implies, implies_true, Int32.reduceLE, Int32.reduceLT, Int32.reduceAdd, Int32.reduceSub, Int32.reduceOfInt, Int32.reduceToNatClampNeg, i10, i01, Nat.add_left_cancel_iff, Nat.left_eq_add, Nat.add_eq_left, cdX10_write, F1]
    rw [if_neg e] at hq
    exact hq h c sOff.rf
end C5
