
/-! the law's loop -/
section LE
variable {Q : aQ} {z : aZ}
set_option maxRecDepth 100000 in
set_option maxHeartbeats 400000 in
theorem law_loop (hz : z.1 ≤ 3072) (hQ : ∀ h, Q (some (.int 1)) 80 h) : ∀ w i h M, z.1 < i + 6 * w → i ≤ 3100 → JI h M → A z 0 80 80 3254 h 18 [some (.float 3), some (.ref 0), some (.ref 52), some (.int (nI i))] [] Q := by
  have out : ∀ i h, ¬ i + 6 ≤ z.1 → i ≤ 3100 → A z 0 80 80 3254 h 18 [some (.float 3), some (.ref 0), some (.ref 52), some (.int (nI i))] [] Q := by
    intro i h hi h31
    have e : nI z.1 - 6 < nI i := by
      rw [Int32.lt_iff_toInt_lt, show (6 : Int32) = nI 6 from rfl, pk_sub_toInt (by omega) (by omega), nI_toInt (by omega)]
      omega
    refine go_ok okF1 (C := cdL_law) (by rfl) [] 40 (by exact Nat.le_of_ble_eq_true rfl) ?_
    simp (maxSteps := 2000000) only [go, stp, inS, ↓reduceIte, Bool.false_eq_true, Nat.reduceLT, Nat.reduceEqDiff, Nat.reduceAdd, ldI, ldL, ldA, st1, st2, okS, List.getElem?_cons_zero, List.getElem?_cons_succ, List.length_cons, List.length_nil, List.set_cons_zero, List.set_cons_succ, callP, callF, popN, ct, Value.category, cI, List.getD_cons_zero, List.getD_cons_succ, and_self, and_true, true_and, Nat.zero_le, Nat.reduceLeDiff, Nat.add_zero, Nat.zero_add, List.nil_append, List.cons_append, Option.toList_some, Option.toList_none, List.append_nil, hset_ss, true_or, or_true, eq_self, beq_self_eq_true, List.drop_succ_cons, List.drop_zero, swT, swL, hset_ap, not_true_eq_false, not_false_eq_true, true_implies, false_implies, implies_true, Int32.reduceLE, Int32.reduceLT, Int32.reduceAdd, Int32.reduceSub, Int32.reduceOfInt, Int32.reduceToNatClampNeg, i10, i01, Nat.add_left_cancel_iff, Nat.left_eq_add, Nat.add_eq_left, cdL_law, F1, u3, sAr3, (show Int32.ofNat z.1 = nI z.1 from rfl), eq_true e, mcT, msT]
    exact hQ h
  intro w
  induction w with
  | zero =>
    intro i h M hw h31 j
    exact out i h (by omega) h31
  | succ w ih =>
    intro i h M hw h31 j
    by_cases hi : i + 6 ≤ z.1
    · have e0 : nI z.1 - 6 = nI (z.1 - 6) := pk_sub (b := 6) (by omega)
      have e : ¬ nI (z.1 - 6) < nI i := by rw [i_lt (by omega) (by omega)]; omega
      have nx : nxA z Q i := fun h2 M2 j2 => by
        refine go_ok okF1 (C := cdL_law) (by rfl) [18] 40 (by exact Nat.le_of_ble_eq_true rfl) ?_
        simp (maxSteps := 2000000) only [go, stp, inS, ↓reduceIte, Bool.false_eq_true, Nat.reduceLT, Nat.reduceEqDiff, Nat.reduceAdd, ldI, ldL, ldA, st1, st2, okS, List.getElem?_cons_zero, List.getElem?_cons_succ, List.length_cons, List.length_nil, List.set_cons_zero, List.set_cons_succ, callP, callF, popN, ct, Value.category, cI, List.getD_cons_zero, List.getD_cons_succ, and_self, and_true, true_and, Nat.zero_le, Nat.reduceLeDiff, Nat.add_zero, Nat.zero_add, List.nil_append, List.cons_append, Option.toList_some, Option.toList_none, List.append_nil, hset_ss, true_or, or_true, eq_self, beq_self_eq_true, List.drop_succ_cons, List.drop_zero, swT, swL, hset_ap, not_true_eq_false, not_false_eq_true, true_implies, false_implies, implies_true, Int32.reduceLE, Int32.reduceLT, Int32.reduceAdd, Int32.reduceSub, Int32.reduceOfInt, Int32.reduceToNatClampNeg, i10, i01, Nat.add_left_cancel_iff, Nat.left_eq_add, Nat.add_eq_left, cdL_law, F1, (show nI i + 6 = nI (i + 6) from nI_add i 6)]
        exact ih (i + 6) h2 M2 (by omega) (by omega) j2
      refine go_ok okF1 (C := cdL_law) (by rfl) [1342] 40 (by exact Nat.le_of_ble_eq_true rfl) ?_
      simp (maxSteps := 2000000) only [go, stp, inS, ↓reduceIte, Bool.false_eq_true, Nat.reduceLT, Nat.reduceEqDiff, Nat.reduceAdd, ldI, ldL, ldA, st1, st2, okS, List.getElem?_cons_zero, List.getElem?_cons_succ, List.length_cons, List.length_nil, List.set_cons_zero, List.set_cons_succ, callP, callF, popN, ct, Value.category, cI, List.getD_cons_zero, List.getD_cons_succ, and_self, and_true, true_and, Nat.zero_le, Nat.reduceLeDiff, Nat.add_zero, Nat.zero_add, List.nil_append, List.cons_append, Option.toList_some, Option.toList_none, List.append_nil, hset_ss, true_or, or_true, eq_self, beq_self_eq_true, List.drop_succ_cons, List.drop_zero, swT, swL, hset_ap, not_true_eq_false, not_false_eq_true, true_implies, false_implies, implies_true, Int32.reduceLE, Int32.reduceLT, Int32.reduceAdd, Int32.reduceSub, Int32.reduceOfInt, Int32.reduceToNatClampNeg, i10, i01, Nat.add_left_cancel_iff, Nat.left_eq_add, Nat.add_eq_left, cdL_law, F1, u3, sAr3, (show Int32.ofNat z.1 = nI z.1 from rfl), e0, e, i_cl (show i < 2147483648 by omega), mcT, msT]
      repeat refine ⟨vp_in_nI (by omega) (by omega), ?_⟩
      exact ⟨fun _ => lc_row j hz hi nx, fun _ => ⟨fun _ => lc_read j hz hi nx, fun _ => ⟨fun _ => lc_at j hz hi nx, fun _ => ⟨fun _ => lc_put j hz hi nx, fun _ => ⟨fun _ => lc_empty j hz hi nx, fun _ => ⟨fun _ => lc_type j hz hi nx, fun _ => ⟨fun _ => lc_wipe j hz hi nx, fun _ => ⟨fun _ => lc_fault j hz hi nx, fun _ => ⟨fun _ => lc_byteOf j hz hi nx, fun _ => ⟨fun _ => lc_acts j hz hi nx, fun _ => ⟨fun _ => lc_means j hz hi nx, fun _ => ⟨fun _ => lc_meant j hz hi nx, fun _ => ⟨fun _ => lc_set j hz hi nx, fun _ => ⟨fun _ => lc_has j hz hi nx, fun _ => ⟨fun _ => lc_which j hz hi nx, fun _ => ⟨fun _ => lc_fired j hz hi nx, fun _ => ⟨fun _ => lc_tell j hz hi nx, fun _ => ⟨fun _ => lc_quarrels j hz hi nx, fun _ => ⟨fun _ => lc_cut j hz hi nx, fun _ => ⟨fun _ => lc_led j hz hi nx, fun _ => ⟨fun _ => lc_wrong j hz hi nx, fun _ => ⟨fun _ => lc_grow j hz hi nx, fun _ => ⟨fun _ => lc_learn j hz hi nx, fun _ => ⟨fun _ => lc_learnt j hz hi nx, fun _ => ⟨fun _ => lc_next j hz hi nx, fun _ => ⟨fun _ => lc_holds j hz hi nx, fun _ => ⟨fun _ => lc_seen j hz hi nx, fun _ => ⟨fun _ => lc_blind j hz hi nx, fun _ => ⟨fun _ => lc_sheet j hz hi nx, fun _ => ⟨fun _ => lc_lose j hz hi nx, fun _ => ⟨fun _ => lc_lay j hz hi nx, fun _ => ⟨fun _ => lc_get j hz hi nx, fun _ => ⟨fun _ => lc_copy j hz hi nx, fun _ => ⟨fun _ => lc_write j hz hi nx, fun _ => ⟨fun _ => lc_count j hz hi nx, fun _ => ⟨fun _ => lc_digest j hz hi nx, fun _ => nx h M j⟩⟩⟩⟩⟩⟩⟩⟩⟩⟩⟩⟩⟩⟩⟩⟩⟩⟩⟩⟩⟩⟩⟩⟩⟩⟩⟩⟩⟩⟩⟩⟩⟩⟩⟩⟩
    · exact out i h hi h31
theorem law_all (hz : z.1 ≤ 3072) (hQ : ∀ h, Q (some (.int 1)) 80 h) : A z 0 0 0 0 (fun _ => none) 0 [some (.float 3), none, none, none] [] Q :=
  law_start (fun h M j => law_loop hz hQ 513 0 h M (by omega) (by omega) j)
end LE
