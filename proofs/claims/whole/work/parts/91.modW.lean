
/-! the model: an act in a row -/
theorem n33 : ¬ ((33 : Int32) = 60 ∨ (33 : Int32) = 61 ∨ (33 : Int32) = 62) := by decide
theorem n63 : ¬ ((63 : Int32) = 60 ∨ (63 : Int32) = 61 ∨ (63 : Int32) = 62) := by decide
theorem n38 : ¬ ((38 : Int32) = 60 ∨ (38 : Int32) = 61 ∨ (38 : Int32) = 62) := by decide
theorem n124 : ¬ ((124 : Int32) = 60 ∨ (124 : Int32) = 61 ∨ (124 : Int32) = 62) := by decide
theorem nlit : (¬ (63 : Int32) = 33) ∧ (¬ (38 : Int32) = 33) ∧ (¬ (38 : Int32) = 63) ∧ (¬ (124 : Int32) = 33) ∧ (¬ (124 : Int32) = 63) ∧ (¬ (124 : Int32) = 38) := by decide
theorem dlit : ((0 : Int32) = 2) = False ∧ ((1 : Int32) = 2) = False ∧ ((3 : Int32) = 2) = False ∧ ((4 : Int32) = 2) = False ∧ ((0 : Int32) = 3) = False ∧ ((1 : Int32) = 3) = False ∧ ((2 : Int32) = 3) = False ∧ ((4 : Int32) = 3) = False ∧ ((2 : Int32) = 0) = False ∧ ((2 : Int32) = 1) = False ∧ ((1 : Int32) - 0 = 1) = True ∧ ((1 : Int32) - 1 = 0) = True := by decide
theorem FR_no {G : Nat → Int32} {ac : Nat} {L R f : Nat → Int32} {r : Nat} {v : Nat → Nat} {k i : Nat} (hg : G k = 33) : FR G ac L R f r v k i ↔ (i = 0 ∧ v (k + 1) = 2) := by
  unfold FR; rw [hg]; simp [cmB]
theorem FR_ask {G : Nat → Int32} {ac : Nat} {L R f : Nat → Int32} {r : Nat} {v : Nat → Nat} {k i : Nat} (hg : G k = 63) : FR G ac L R f r v k i ↔ (i = 5 ∧ cmB (G (k + 1)) = true ∧ v (k + 1) = 2) := by
  unfold FR; rw [hg]; simp [cmB]
theorem FR_and {G : Nat → Int32} {ac : Nat} {L R f : Nat → Int32} {r : Nat} {v : Nat → Nat} {k i : Nat} (hg : G k = 38) : FR G ac L R f r v k i ↔ (i = 2 ∧ ((v (k + 1) = 1 ∧ v (k + 1 + sz G ac (k + 1)) = 2) ∨ (v (k + 1) = 2 ∧ v (k + 1 + sz G ac (k + 1)) = 1))) := by
  unfold FR; rw [hg]; simp [cmB]
theorem FR_or {G : Nat → Int32} {ac : Nat} {L R f : Nat → Int32} {r : Nat} {v : Nat → Nat} {k i : Nat} (hg : G k = 124) : FR G ac L R f r v k i ↔ (i = 3 ∧ ((v (k + 1) = 2 ∧ v (k + 1 + sz G ac (k + 1)) = 0) ∨ (v (k + 1) = 0 ∧ v (k + 1 + sz G ac (k + 1)) = 2))) := by
  unfold FR; rw [hg]; simp [cmB]
theorem FR_cm {G : Nat → Int32} {ac : Nat} {L R f : Nat → Int32} {r : Nat} {v : Nat → Nat} {k i : Nat} (hc : isCm (G k)) : FR G ac L R f r v k i ↔ FC i (G k) (L k) (R k) (tv f r (L k)) (tv f r (R k)) := by
  unfold FR
  have n1 : ¬ G k = 33 := fun q => on_ncm (Or.inl q) hc
  have n2 : ¬ G k = 63 := fun q => on_ncm (Or.inr q) hc
  have n3 : ¬ G k = 38 := fun q => cm_ntw hc (Or.inl q)
  have n4 : ¬ G k = 124 := fun q => cm_ntw hc (Or.inr q)
  simp only [n1, n2, n3, n4, cmB_iff.mpr hc, true_and, false_and, and_false, or_false]
section MW
variable {n : Nat} {h : aH} {Q : aQ} {M : MS} {c : Nat → Int32} {a : Nat → Nat → Int32} {l : Nat → Nat → Int64} {G L R : Nat → Int32} {N : Nat}
set_option maxRecDepth 100000 in
set_option maxHeartbeats 400000 in
theorem act_not {k r : Nat} {eng : Bool} {v1 : Nat} (m : MH h c a l) (hN : N ≤ 100) (hk : k + 1 < N) (a22 : a 22 k = 33) (a31 : a 31 (k + 1) = nI v1) (hv : v1 ≤ 2)
    (hq : ∀ h' v, MH h' (upd c 30 v) a l → fiN c eng v (fun i => i = 0 ∧ v1 = 2) → sOff h h' 52 80 → Q (some (.int (nI (vT (bt (dnE c eng) 0) v1)))) n h') : Ok 188 [.ref 52, .int (nI k), .int (nI r), .int (eI eng)] n h Q := by
  obtain ⟨d1, d2, d3, d4, d5, d6, d7, d8, d9, d10, d11, d12⟩ := dlit
  have no := hq h (c 30) (by rw [upd_me]; exact m)
  refine ok_of kMX11_actIn kCX11_actIn (Nat.le_of_ble_eq_true rfl) (fun z => ?_)
  change A z _ _ 0 0 _ 0 [some (.ref 52), some (.int (nI k)), some (.int (nI r)), some (.int (eI eng)), none, none] [] _
  rw [bt_dn] at hq no
  cases eng with
  | false =>
    have no := no (fiN.no (fun j q => absurd q (by decide))) sOff.rf
    rcases (by omega : v1 = 0 ∨ v1 = 1 ∨ v1 = 2) with rfl | rfl | rfl
    all_goals
      refine go_ok okF1 (C := cdX11_actIn) (by rfl) [] 60 (by exact Nat.le_of_ble_eq_true rfl) ?_
      simp (maxSteps := 2000000) only [go, stp, inS, ↓reduceIte, Bool.false_eq_true, Nat.reduceLT, Nat.reduceEqDiff, Nat.reduceAdd, ldI, ldL, ldA, st1, st2, okS, List.getElem?_cons_zero, List.getElem?_cons_succ, List.length_cons, List.length_nil, List.set_cons_zero, List.set_cons_succ, callP, callF, popN, ct, Value.category, cI, List.getD_cons_zero, List.getD_cons_succ, and_self, and_true, true_and, Nat.zero_le, Nat.reduceLeDiff, Nat.add_zero, Nat.zero_add, List.nil_append, List.cons_append, Option.toList_some, Option.toList_none, List.append_nil, hset_ss, true_or, or_true, eq_self, beq_self_eq_true, List.drop_succ_cons, List.drop_zero, swT, swL, hset_ap, not_true_eq_false, not_false_eq_true, true_implies, false_implies, implies_true, Int32.reduceLE, Int32.reduceLT, Int32.reduceAdd, Int32.reduceSub, Int32.reduceOfInt, Int32.reduceToNatClampNeg, i10, i01, Nat.add_left_cancel_iff, Nat.left_eq_add, Nat.add_eq_left, cdX11_actIn, F1, (show eI false = 0 from rfl), m.o, m.a22, m.a31, i_cl (show k < 2147483648 by omega), nI_1, i_cl (show k + 1 < 2147483648 by omega), a22, eq_false n33, a31, (show nI 0 = 0 from rfl), (show nI 1 = 1 from rfl), (show nI 2 = 2 from rfl), d1, d2]
      repeat refine ⟨vp_in_nI (by omega) (by omega), ?_⟩
      exact no
  | true =>
    rcases (by omega : v1 = 0 ∨ v1 = 1 ∨ v1 = 2) with rfl | rfl | rfl
    · have no := no (fiN.no (fun j _ q => absurd q.2 (by decide))) sOff.rf
      refine go_ok okF1 (C := cdX11_actIn) (by rfl) [] 60 (by exact Nat.le_of_ble_eq_true rfl) ?_
      simp (maxSteps := 2000000) only [go, stp, inS, ↓reduceIte, Bool.false_eq_true, Nat.reduceLT, Nat.reduceEqDiff, Nat.reduceAdd, ldI, ldL, ldA, st1, st2, okS, List.getElem?_cons_zero, List.getElem?_cons_succ, List.length_cons, List.length_nil, List.set_cons_zero, List.set_cons_succ, callP, callF, popN, ct, Value.category, cI, List.getD_cons_zero, List.getD_cons_succ, and_self, and_true, true_and, Nat.zero_le, Nat.reduceLeDiff, Nat.add_zero, Nat.zero_add, List.nil_append, List.cons_append, Option.toList_some, Option.toList_none, List.append_nil, hset_ss, true_or, or_true, eq_self, beq_self_eq_true, List.drop_succ_cons, List.drop_zero, swT, swL, hset_ap, not_true_eq_false, not_false_eq_true, true_implies, false_implies, implies_true, Int32.reduceLE, Int32.reduceLT, Int32.reduceAdd, Int32.reduceSub, Int32.reduceOfInt, Int32.reduceToNatClampNeg, i10, i01, Nat.add_left_cancel_iff, Nat.left_eq_add, Nat.add_eq_left, cdX11_actIn, F1, (show eI true = 1 from rfl), m.o, m.a22, m.a31, i_cl (show k < 2147483648 by omega), nI_1, i_cl (show k + 1 < 2147483648 by omega), a22, eq_false n33, a31, (show nI 0 = 0 from rfl), d1, d2]
      repeat refine ⟨vp_in_nI (by omega) (by omega), ?_⟩
      exact no
    · have no := no (fiN.no (fun j _ q => absurd q.2 (by decide))) sOff.rf
      refine go_ok okF1 (C := cdX11_actIn) (by rfl) [] 60 (by exact Nat.le_of_ble_eq_true rfl) ?_
      simp (maxSteps := 2000000) only [go, stp, inS, ↓reduceIte, Bool.false_eq_true, Nat.reduceLT, Nat.reduceEqDiff, Nat.reduceAdd, ldI, ldL, ldA, st1, st2, okS, List.getElem?_cons_zero, List.getElem?_cons_succ, List.length_cons, List.length_nil, List.set_cons_zero, List.set_cons_succ, callP, callF, popN, ct, Value.category, cI, List.getD_cons_zero, List.getD_cons_succ, and_self, and_true, true_and, Nat.zero_le, Nat.reduceLeDiff, Nat.add_zero, Nat.zero_add, List.nil_append, List.cons_append, Option.toList_some, Option.toList_none, List.append_nil, hset_ss, true_or, or_true, eq_self, beq_self_eq_true, List.drop_succ_cons, List.drop_zero, swT, swL, hset_ap, not_true_eq_false, not_false_eq_true, true_implies, false_implies, implies_true, Int32.reduceLE, Int32.reduceLT, Int32.reduceAdd, Int32.reduceSub, Int32.reduceOfInt, Int32.reduceToNatClampNeg, i10, i01, Nat.add_left_cancel_iff, Nat.left_eq_add, Nat.add_eq_left, cdX11_actIn, F1, (show eI true = 1 from rfl), m.o, m.a22, m.a31, i_cl (show k < 2147483648 by omega), nI_1, i_cl (show k + 1 < 2147483648 by omega), a22, eq_false n33, a31, (show nI 1 = 1 from rfl), d1, d2]
      repeat refine ⟨vp_in_nI (by omega) (by omega), ?_⟩
      exact no
    · refine go_ok okF1 (C := cdX11_actIn) (by rfl) [] 60 (by exact Nat.le_of_ble_eq_true rfl) ?_
      simp (maxSteps := 2000000) only [go, stp, inS, ↓reduceIte, Bool.false_eq_true, Nat.reduceLT, Nat.reduceEqDiff, Nat.reduceAdd, ldI, ldL, ldA, st1, st2, okS, List.getElem?_cons_zero, List.getElem?_cons_succ, List.length_cons, List.length_nil, List.set_cons_zero, List.set_cons_succ, callP, callF, popN, ct, Value.category, cI, List.getD_cons_zero, List.getD_cons_succ, and_self, and_true, true_and, Nat.zero_le, Nat.reduceLeDiff, Nat.add_zero, Nat.zero_add, List.nil_append, List.cons_append, Option.toList_some, Option.toList_none, List.append_nil, hset_ss, true_or, or_true, eq_self, beq_self_eq_true, List.drop_succ_cons, List.drop_zero, swT, swL, hset_ap, not_true_eq_false, not_false_eq_true, true_implies, false_implies, implies_true, Int32.reduceLE, Int32.reduceLT, Int32.reduceAdd, Int32.reduceSub, Int32.reduceOfInt, Int32.reduceToNatClampNeg, i10, i01, Nat.add_left_cancel_iff, Nat.left_eq_add, Nat.add_eq_left, cdX11_actIn, F1, (show eI true = 1 from rfl), m.o, m.a22, m.a31, i_cl (show k < 2147483648 by omega), nI_1, i_cl (show k + 1 < 2147483648 by omega), a22, eq_false n33, a31, (show nI 2 = 2 from rfl)]
      repeat refine ⟨vp_in_nI (by omega) (by omega), ?_⟩
      refine D_done m (i := 0) (by omega) (fun h' v m' f o => ?_)
      have fin := hq h' v m' (f.one (fun j => ⟨fun q => q.1, fun q => ⟨q, rfl⟩⟩)) o
      rw [Bool.true_and] at fin
      by_cases db : bt (c 28 &&& c 29) 0 = true
      · rw [if_pos db]
        rw [db] at fin
        refine go_ok okF1 (C := cdX11_actIn) (by rfl) [] 60 (by exact Nat.le_of_ble_eq_true rfl) ?_
        simp (maxSteps := 2000000) only [go, stp, inS, ↓reduceIte, Bool.false_eq_true, Nat.reduceLT, Nat.reduceEqDiff, Nat.reduceAdd, ldI, ldL, ldA, st1, st2, okS, List.getElem?_cons_zero, List.getElem?_cons_succ, List.length_cons, List.length_nil, List.set_cons_zero, List.set_cons_succ, callP, callF, popN, ct, Value.category, cI, List.getD_cons_zero, List.getD_cons_succ, and_self, and_true, true_and, Nat.zero_le, Nat.reduceLeDiff, Nat.add_zero, Nat.zero_add, List.nil_append, List.cons_append, Option.toList_some, Option.toList_none, List.append_nil, hset_ss, true_or, or_true, eq_self, beq_self_eq_true, List.drop_succ_cons, List.drop_zero, swT, swL, hset_ap, not_true_eq_false, not_false_eq_true, true_implies, false_implies, implies_true, Int32.reduceLE, Int32.reduceLT, Int32.reduceAdd, Int32.reduceSub, Int32.reduceOfInt, Int32.reduceToNatClampNeg, i10, i01, Nat.add_left_cancel_iff, Nat.left_eq_add, Nat.add_eq_left, cdX11_actIn, F1]
        exact fin
      · rw [if_neg db]
        rw [Bool.eq_false_iff.mpr db] at fin
        refine go_ok okF1 (C := cdX11_actIn) (by rfl) [] 60 (by exact Nat.le_of_ble_eq_true rfl) ?_
        simp (maxSteps := 2000000) only [go, stp, inS, ↓reduceIte, Bool.false_eq_true, Nat.reduceLT, Nat.reduceEqDiff, Nat.reduceAdd, ldI, ldL, ldA, st1, st2, okS, List.getElem?_cons_zero, List.getElem?_cons_succ, List.length_cons, List.length_nil, List.set_cons_zero, List.set_cons_succ, callP, callF, popN, ct, Value.category, cI, List.getD_cons_zero, List.getD_cons_succ, and_self, and_true, true_and, Nat.zero_le, Nat.reduceLeDiff, Nat.add_zero, Nat.zero_add, List.nil_append, List.cons_append, Option.toList_some, Option.toList_none, List.append_nil, hset_ss, true_or, or_true, eq_self, beq_self_eq_true, List.drop_succ_cons, List.drop_zero, swT, swL, hset_ap, not_true_eq_false, not_false_eq_true, true_implies, false_implies, implies_true, Int32.reduceLE, Int32.reduceLT, Int32.reduceAdd, Int32.reduceSub, Int32.reduceOfInt, Int32.reduceToNatClampNeg, i10, i01, Nat.add_left_cancel_iff, Nat.left_eq_add, Nat.add_eq_left, cdX11_actIn, F1]
        exact fin
set_option maxRecDepth 100000 in
set_option maxHeartbeats 400000 in
theorem act_ask {k r : Nat} {eng : Bool} {v1 : Nat} {g1 : Int32} (m : MH h c a l) (hN : N ≤ 100) (hk : k + 1 < N) (a22 : a 22 k = 63) (a22' : a 22 (k + 1) = g1) (a31 : a 31 (k + 1) = nI v1) (hv : v1 ≤ 2)
    (hq : ∀ h' v, MH h' (upd c 30 v) a l → fiN c eng v (fun i => i = 5 ∧ cmB g1 = true ∧ v1 = 2) → sOff h h' 52 80 → Q (some (.int (nI (vQ (cmB g1 && bt (dnE c eng) 5) v1)))) n h') : Ok 188 [.ref 52, .int (nI k), .int (nI r), .int (eI eng)] n h Q := by
  obtain ⟨d1, d2, d3, d4, d5, d6, d7, d8, d9, d10, d11, d12⟩ := dlit
  have no := hq h (c 30) (by rw [upd_me]; exact m)
  refine ok_of kMX11_actIn kCX11_actIn (Nat.le_of_ble_eq_true rfl) (fun z => ?_)
  change A z _ _ 0 0 _ 0 [some (.ref 52), some (.int (nI k)), some (.int (nI r)), some (.int (eI eng)), none, none] [] _
  rw [bt_dn] at hq no
  cases eng with
  | false =>
    have no := no (fiN.no (fun j q => absurd q (by decide))) sOff.rf
    rw [Bool.false_and, Bool.and_false] at no
    rcases (by omega : v1 = 0 ∨ v1 = 1 ∨ v1 = 2) with rfl | rfl | rfl
    all_goals
      refine go_ok okF1 (C := cdX11_actIn) (by rfl) [] 60 (by exact Nat.le_of_ble_eq_true rfl) ?_
      simp (maxSteps := 2000000) only [go, stp, inS, ↓reduceIte, Bool.false_eq_true, Nat.reduceLT, Nat.reduceEqDiff, Nat.reduceAdd, ldI, ldL, ldA, st1, st2, okS, List.getElem?_cons_zero, List.getElem?_cons_succ, List.length_cons, List.length_nil, List.set_cons_zero, List.set_cons_succ, callP, callF, popN, ct, Value.category, cI, List.getD_cons_zero, List.getD_cons_succ, and_self, and_true, true_and, Nat.zero_le, Nat.reduceLeDiff, Nat.add_zero, Nat.zero_add, List.nil_append, List.cons_append, Option.toList_some, Option.toList_none, List.append_nil, hset_ss, true_or, or_true, eq_self, beq_self_eq_true, List.drop_succ_cons, List.drop_zero, swT, swL, hset_ap, not_true_eq_false, not_false_eq_true, true_implies, false_implies, implies_true, Int32.reduceLE, Int32.reduceLT, Int32.reduceAdd, Int32.reduceSub, Int32.reduceOfInt, Int32.reduceToNatClampNeg, i10, i01, Nat.add_left_cancel_iff, Nat.left_eq_add, Nat.add_eq_left, cdX11_actIn, F1, (show eI false = 0 from rfl), m.o, m.a22, m.a31, i_cl (show k < 2147483648 by omega), nI_1, i_cl (show k + 1 < 2147483648 by omega), a22, eq_false n63, a31, (show nI 0 = 0 from rfl), (show nI 1 = 1 from rfl), (show nI 2 = 2 from rfl), d1, d2, nlit]
      repeat refine ⟨vp_in_nI (by omega) (by omega), ?_⟩
      exact no
  | true =>
    rcases (by omega : v1 = 0 ∨ v1 = 1 ∨ v1 = 2) with rfl | rfl | rfl
    · have no := no (fiN.no (fun j _ q => absurd q.2.2 (by decide))) sOff.rf
      refine go_ok okF1 (C := cdX11_actIn) (by rfl) [] 60 (by exact Nat.le_of_ble_eq_true rfl) ?_
      simp (maxSteps := 2000000) only [go, stp, inS, ↓reduceIte, Bool.false_eq_true, Nat.reduceLT, Nat.reduceEqDiff, Nat.reduceAdd, ldI, ldL, ldA, st1, st2, okS, List.getElem?_cons_zero, List.getElem?_cons_succ, List.length_cons, List.length_nil, List.set_cons_zero, List.set_cons_succ, callP, callF, popN, ct, Value.category, cI, List.getD_cons_zero, List.getD_cons_succ, and_self, and_true, true_and, Nat.zero_le, Nat.reduceLeDiff, Nat.add_zero, Nat.zero_add, List.nil_append, List.cons_append, Option.toList_some, Option.toList_none, List.append_nil, hset_ss, true_or, or_true, eq_self, beq_self_eq_true, List.drop_succ_cons, List.drop_zero, swT, swL, hset_ap, not_true_eq_false, not_false_eq_true, true_implies, false_implies, implies_true, Int32.reduceLE, Int32.reduceLT, Int32.reduceAdd, Int32.reduceSub, Int32.reduceOfInt, Int32.reduceToNatClampNeg, i10, i01, Nat.add_left_cancel_iff, Nat.left_eq_add, Nat.add_eq_left, cdX11_actIn, F1, (show eI true = 1 from rfl), m.o, m.a22, m.a31, i_cl (show k < 2147483648 by omega), nI_1, i_cl (show k + 1 < 2147483648 by omega), a22, eq_false n63, a31, (show nI 0 = 0 from rfl), d1, d2, nlit]
      repeat refine ⟨vp_in_nI (by omega) (by omega), ?_⟩
      exact no
    · have no := no (fiN.no (fun j _ q => absurd q.2.2 (by decide))) sOff.rf
      refine go_ok okF1 (C := cdX11_actIn) (by rfl) [] 60 (by exact Nat.le_of_ble_eq_true rfl) ?_
      simp (maxSteps := 2000000) only [go, stp, inS, ↓reduceIte, Bool.false_eq_true, Nat.reduceLT, Nat.reduceEqDiff, Nat.reduceAdd, ldI, ldL, ldA, st1, st2, okS, List.getElem?_cons_zero, List.getElem?_cons_succ, List.length_cons, List.length_nil, List.set_cons_zero, List.set_cons_succ, callP, callF, popN, ct, Value.category, cI, List.getD_cons_zero, List.getD_cons_succ, and_self, and_true, true_and, Nat.zero_le, Nat.reduceLeDiff, Nat.add_zero, Nat.zero_add, List.nil_append, List.cons_append, Option.toList_some, Option.toList_none, List.append_nil, hset_ss, true_or, or_true, eq_self, beq_self_eq_true, List.drop_succ_cons, List.drop_zero, swT, swL, hset_ap, not_true_eq_false, not_false_eq_true, true_implies, false_implies, implies_true, Int32.reduceLE, Int32.reduceLT, Int32.reduceAdd, Int32.reduceSub, Int32.reduceOfInt, Int32.reduceToNatClampNeg, i10, i01, Nat.add_left_cancel_iff, Nat.left_eq_add, Nat.add_eq_left, cdX11_actIn, F1, (show eI true = 1 from rfl), m.o, m.a22, m.a31, i_cl (show k < 2147483648 by omega), nI_1, i_cl (show k + 1 < 2147483648 by omega), a22, eq_false n63, a31, (show nI 1 = 1 from rfl), d1, d2, nlit]
      repeat refine ⟨vp_in_nI (by omega) (by omega), ?_⟩
      exact no
    · by_cases hc : isCm g1
      · have ec : (g1 = 60 ∨ g1 = 61 ∨ g1 = 62) = True := eq_true hc
        refine go_ok okF1 (C := cdX11_actIn) (by rfl) [] 60 (by exact Nat.le_of_ble_eq_true rfl) ?_
        simp (maxSteps := 2000000) only [go, stp, inS, ↓reduceIte, Bool.false_eq_true, Nat.reduceLT, Nat.reduceEqDiff, Nat.reduceAdd, ldI, ldL, ldA, st1, st2, okS, List.getElem?_cons_zero, List.getElem?_cons_succ, List.length_cons, List.length_nil, List.set_cons_zero, List.set_cons_succ, callP, callF, popN, ct, Value.category, cI, List.getD_cons_zero, List.getD_cons_succ, and_self, and_true, true_and, Nat.zero_le, Nat.reduceLeDiff, Nat.add_zero, Nat.zero_add, List.nil_append, List.cons_append, Option.toList_some, Option.toList_none, List.append_nil, hset_ss, true_or, or_true, eq_self, beq_self_eq_true, List.drop_succ_cons, List.drop_zero, swT, swL, hset_ap, not_true_eq_false, not_false_eq_true, true_implies, false_implies, implies_true, Int32.reduceLE, Int32.reduceLT, Int32.reduceAdd, Int32.reduceSub, Int32.reduceOfInt, Int32.reduceToNatClampNeg, i10, i01, Nat.add_left_cancel_iff, Nat.left_eq_add, Nat.add_eq_left, cdX11_actIn, F1, (show eI true = 1 from rfl), m.o, m.a22, m.a31, i_cl (show k < 2147483648 by omega), nI_1, i_cl (show k + 1 < 2147483648 by omega), a22, a22', eq_false n63, ec, a31, (show nI 2 = 2 from rfl), nlit]
        repeat refine ⟨vp_in_nI (by omega) (by omega), ?_⟩
        refine D_done m (i := 5) (by omega) (fun h' v m' f o => ?_)
        have fin := hq h' v m' (f.one (fun j => ⟨fun q => q.1, fun q => ⟨q, cmB_iff.mpr hc, rfl⟩⟩)) o
        rw [Bool.true_and, cmB_iff.mpr hc, Bool.true_and] at fin
        by_cases db : bt (c 28 &&& c 29) 5 = true
        · rw [if_pos db]
          rw [db] at fin
          refine go_ok okF1 (C := cdX11_actIn) (by rfl) [] 60 (by exact Nat.le_of_ble_eq_true rfl) ?_
          simp (maxSteps := 2000000) only [go, stp, inS, ↓reduceIte, Bool.false_eq_true, Nat.reduceLT, Nat.reduceEqDiff, Nat.reduceAdd, ldI, ldL, ldA, st1, st2, okS, List.getElem?_cons_zero, List.getElem?_cons_succ, List.length_cons, List.length_nil, List.set_cons_zero, List.set_cons_succ, callP, callF, popN, ct, Value.category, cI, List.getD_cons_zero, List.getD_cons_succ, and_self, and_true, true_and, Nat.zero_le, Nat.reduceLeDiff, Nat.add_zero, Nat.zero_add, List.nil_append, List.cons_append, Option.toList_some, Option.toList_none, List.append_nil, hset_ss, true_or, or_true, eq_self, beq_self_eq_true, List.drop_succ_cons, List.drop_zero, swT, swL, hset_ap, not_true_eq_false, not_false_eq_true, true_implies, false_implies, implies_true, Int32.reduceLE, Int32.reduceLT, Int32.reduceAdd, Int32.reduceSub, Int32.reduceOfInt, Int32.reduceToNatClampNeg, i10, i01, Nat.add_left_cancel_iff, Nat.left_eq_add, Nat.add_eq_left, cdX11_actIn, F1]
          exact fin
        · rw [if_neg db]
          rw [Bool.eq_false_iff.mpr db] at fin
          refine go_ok okF1 (C := cdX11_actIn) (by rfl) [] 60 (by exact Nat.le_of_ble_eq_true rfl) ?_
          simp (maxSteps := 2000000) only [go, stp, inS, ↓reduceIte, Bool.false_eq_true, Nat.reduceLT, Nat.reduceEqDiff, Nat.reduceAdd, ldI, ldL, ldA, st1, st2, okS, List.getElem?_cons_zero, List.getElem?_cons_succ, List.length_cons, List.length_nil, List.set_cons_zero, List.set_cons_succ, callP, callF, popN, ct, Value.category, cI, List.getD_cons_zero, List.getD_cons_succ, and_self, and_true, true_and, Nat.zero_le, Nat.reduceLeDiff, Nat.add_zero, Nat.zero_add, List.nil_append, List.cons_append, Option.toList_some, Option.toList_none, List.append_nil, hset_ss, true_or, or_true, eq_self, beq_self_eq_true, List.drop_succ_cons, List.drop_zero, swT, swL, hset_ap, not_true_eq_false, not_false_eq_true, true_implies, false_implies, implies_true, Int32.reduceLE, Int32.reduceLT, Int32.reduceAdd, Int32.reduceSub, Int32.reduceOfInt, Int32.reduceToNatClampNeg, i10, i01, Nat.add_left_cancel_iff, Nat.left_eq_add, Nat.add_eq_left, cdX11_actIn, F1]
          exact fin
      · have ec : (g1 = 60 ∨ g1 = 61 ∨ g1 = 62) = False := eq_false hc
        have hcb : cmB g1 = false := Bool.eq_false_iff.mpr (fun q => hc (cmB_iff.mp q))
        have no := no (fiN.no (fun j _ q => by rw [hcb] at q; exact absurd q.2.1 (by decide))) sOff.rf
        rw [hcb, Bool.false_and] at no
        refine go_ok okF1 (C := cdX11_actIn) (by rfl) [] 60 (by exact Nat.le_of_ble_eq_true rfl) ?_
        simp (maxSteps := 2000000) only [go, stp, inS, ↓reduceIte, Bool.false_eq_true, Nat.reduceLT, Nat.reduceEqDiff, Nat.reduceAdd, ldI, ldL, ldA, st1, st2, okS, List.getElem?_cons_zero, List.getElem?_cons_succ, List.length_cons, List.length_nil, List.set_cons_zero, List.set_cons_succ, callP, callF, popN, ct, Value.category, cI, List.getD_cons_zero, List.getD_cons_succ, and_self, and_true, true_and, Nat.zero_le, Nat.reduceLeDiff, Nat.add_zero, Nat.zero_add, List.nil_append, List.cons_append, Option.toList_some, Option.toList_none, List.append_nil, hset_ss, true_or, or_true, eq_self, beq_self_eq_true, List.drop_succ_cons, List.drop_zero, swT, swL, hset_ap, not_true_eq_false, not_false_eq_true, true_implies, false_implies, implies_true, Int32.reduceLE, Int32.reduceLT, Int32.reduceAdd, Int32.reduceSub, Int32.reduceOfInt, Int32.reduceToNatClampNeg, i10, i01, Nat.add_left_cancel_iff, Nat.left_eq_add, Nat.add_eq_left, cdX11_actIn, F1, (show eI true = 1 from rfl), m.o, m.a22, m.a31, i_cl (show k < 2147483648 by omega), nI_1, i_cl (show k + 1 < 2147483648 by omega), a22, a22', eq_false n63, ec, a31, (show nI 2 = 2 from rfl), nlit]
        repeat refine ⟨vp_in_nI (by omega) (by omega), ?_⟩
        exact no
end MW
