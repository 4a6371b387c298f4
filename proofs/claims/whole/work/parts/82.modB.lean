
/-! the model: lose, lay, get, copy -/
section MB
variable {n : Nat} {h : aH} {Q : aQ} {M : MS} {c : Nat → Int32} {a : Nat → Nat → Int32} {l : Nat → Nat → Int64}
theorem mR.fm (r : mR M c a l) {s : Nat} (hs : s < 4) : a 0 s = M.fm s := r.2.2.2.2.2.1 s hs
theorem mR.sz (r : mR M c a l) {s : Nat} (hs : s < 4) (hf : ¬ M.fm s = -1) : a 1 s = nI (M.sz s) := r.2.2.2.2.2.2.1 s hs hf
theorem mR.it (r : mR M c a l) {s i : Nat} (hs : s < 4) (hf : ¬ M.fm s = -1) (hi : i < M.sz s) : l 2 (48 * s + i) = M.I s i := r.2.2.2.2.2.2.2 s i hs hf hi
theorem in0s {i : Int32} {k : Nat} (hk : k < 1000) : ((0 : Int64) ≤ i.toInt64 ∧ i.toInt64 ≤ (nI k - 1).toInt64) = (0 ≤ i ∧ i < nI k) := by
  rw [show (0 : Int64) = (0 : Int32).toInt64 from rfl, in64]
  have e : i ≤ nI k - 1 ↔ i < nI k := by
    rw [Int32.le_iff_toInt_le, Int32.lt_iff_toInt_lt, show (1 : Int32) = nI 1 from rfl, pk_sub_toInt (by omega) (by omega), nI_toInt (by omega)]
    omega
  rw [e]
set_option maxRecDepth 100000 in
set_option maxHeartbeats 400000 in
theorem D_lose {x : Int32} (m : MI h M) (ok : MOk M) (hq : ∀ h', MI h' (stLose M x).2 → sOff h h' 52 80 → Q (some (.int (stLose M x).1)) n h') : Ok 150 [.ref 52, .int x] n h Q := by
  unfold stLose at hq
  have m0 := m
  obtain ⟨c, a, l, m, r⟩ := m
  refine ok_of kMX11_lose kCX11_lose (Nat.le_of_ble_eq_true rfl) (fun z => ?_)
  change A z _ _ 0 0 _ 0 [some (.ref 52), some (.int x)] [] _
  by_cases hx : 0 ≤ x ∧ x < 4
  · obtain ⟨s, hs, rfl⟩ := i_of (n := 4) (by omega) (i_nlt.mpr hx.1) hx.2
    rw [if_pos hx, i_cl (show s < 2147483648 by omega)] at hq
    refine go_ok okF1 (C := cdX11_lose) (by rfl) [] 40 (by exact Nat.le_of_ble_eq_true rfl) ?_
    simp (maxSteps := 2000000) only [go, stp, inS, ↓reduceIte, Bool.false_eq_true, Nat.reduceLT, Nat.reduceEqDiff, Nat.reduceAdd, ldI, ldL, ldA, st1, st2, okS, List.getElem?_cons_zero, List.getElem?_cons_succ, List.length_cons, List.length_nil, List.set_cons_zero, List.set_cons_succ, callP, callF, popN, ct, Value.category, cI, List.getD_cons_zero, List.getD_cons_succ, and_self, and_true, true_and, Nat.zero_le, Nat.reduceLeDiff, Nat.add_zero, Nat.zero_add, List.nil_append, List.cons_append, Option.toList_some, Option.toList_none, List.append_nil, hset_ss, true_or, or_true, eq_self, beq_self_eq_true, List.drop_succ_cons, List.drop_zero, swT, swL, hset_ap, not_true_eq_false, not_false_eq_true, true_implies, false_implies, implies_true, Int32.reduceLE, Int32.reduceLT, Int32.reduceAdd, Int32.reduceSub, Int32.reduceOfInt, Int32.reduceToNatClampNeg, i10, i01, Nat.add_left_cancel_iff, Nat.left_eq_add, Nat.add_eq_left, cdX11_lose, F1, eq_true hx, m.o, m.a0, m.a1, i_cl (show s < 2147483648 by omega), r.fm hs]
    refine ⟨vp_in_nI (by omega) (by omega), fun c1 => ?_, fun c1 => ?_⟩
    · have hf : ¬ M.fm s = -1 := fun q => absurd c1 (i_nle.mpr ((fmn ok hs).mpr q))
      refine ⟨vp_in_nI (by omega) (by omega), vp_in_nI (by omega) (by omega), ?_⟩
      rw [if_neg hf] at hq
      rw [r.sz hs hf]
      refine hq _ ⟨c, _, l, m.s0 (upd (a 0) s (-1)), r.1, r.2.1, r.2.2.1, r.2.2.2.1, r.2.2.2.2.1, fun s' hs' => ?_, fun s' hs' hf' => ?_, fun s' i' hs' hf' hi' => ?_⟩ (sOff.rf.set (by omega) (by omega))
      · show upd (a 0) s (-1) s' = fset M.fm s (-1) s'
        by_cases e : s' = s
        · subst e; rw [pk_us, fset_s]
        · rw [pk_un e, fset_n _ _ e]; exact r.fm hs'
      · have hf' : ¬ fset M.fm s (-1) s' = -1 := hf'
        show a 1 s' = nI (fset M.sz s 0 s')
        by_cases e : s' = s
        · subst e; rw [fset_s] at hf'; exact absurd rfl hf'
        · rw [fset_n _ _ e] at hf' ⊢; exact r.sz hs' hf'
      · have hf' : ¬ fset M.fm s (-1) s' = -1 := hf'
        have hi' : i' < fset M.sz s 0 s' := hi'
        show l 2 (48 * s' + i') = fset M.I s (zrI (M.I s)) s' i'
        by_cases e : s' = s
        · subst e; rw [fset_s] at hf'; exact absurd rfl hf'
        · rw [fset_n _ _ e] at hf' hi' ⊢; exact r.it hs' hf' hi'
    · have hf : M.fm s = -1 := (fmn ok hs).mp (i_nle.mp c1)
      rw [if_pos hf] at hq
      refine D_met m0 (fun h' m' hO => ?_)
      refine go_ok okF1 (C := cdX11_lose) (by rfl) [] 40 (by exact Nat.le_of_ble_eq_true rfl) ?_
      simp (maxSteps := 2000000) only [go, stp, inS, ↓reduceIte, Bool.false_eq_true, Nat.reduceLT, Nat.reduceEqDiff, Nat.reduceAdd, ldI, ldL, ldA, st1, st2, okS, List.getElem?_cons_zero, List.getElem?_cons_succ, List.length_cons, List.length_nil, List.set_cons_zero, List.set_cons_succ, callP, callF, popN, ct, Value.category, cI, List.getD_cons_zero, List.getD_cons_succ, and_self, and_true, true_and, Nat.zero_le, Nat.reduceLeDiff, Nat.add_zero, Nat.zero_add, List.nil_append, List.cons_append, Option.toList_some, Option.toList_none, List.append_nil, hset_ss, true_or, or_true, eq_self, beq_self_eq_true, List.drop_succ_cons, List.drop_zero, swT, swL, hset_ap, not_true_eq_false, not_false_eq_true, true_implies, false_implies, implies_true, Int32.reduceLE, Int32.reduceLT, Int32.reduceAdd, Int32.reduceSub, Int32.reduceOfInt, Int32.reduceToNatClampNeg, i10, i01, Nat.add_left_cancel_iff, Nat.left_eq_add, Nat.add_eq_left, cdX11_lose, F1]
      exact hq h' m' hO
  · rw [if_neg hx] at hq
    refine go_ok okF1 (C := cdX11_lose) (by rfl) [] 40 (by exact Nat.le_of_ble_eq_true rfl) ?_
    simp (maxSteps := 2000000) only [go, stp, inS, ↓reduceIte, Bool.false_eq_true, Nat.reduceLT, Nat.reduceEqDiff, Nat.reduceAdd, ldI, ldL, ldA, st1, st2, okS, List.getElem?_cons_zero, List.getElem?_cons_succ, List.length_cons, List.length_nil, List.set_cons_zero, List.set_cons_succ, callP, callF, popN, ct, Value.category, cI, List.getD_cons_zero, List.getD_cons_succ, and_self, and_true, true_and, Nat.zero_le, Nat.reduceLeDiff, Nat.add_zero, Nat.zero_add, List.nil_append, List.cons_append, Option.toList_some, Option.toList_none, List.append_nil, hset_ss, true_or, or_true, eq_self, beq_self_eq_true, List.drop_succ_cons, List.drop_zero, swT, swL, hset_ap, not_true_eq_false, not_false_eq_true, true_implies, false_implies, implies_true, Int32.reduceLE, Int32.reduceLT, Int32.reduceAdd, Int32.reduceSub, Int32.reduceOfInt, Int32.reduceToNatClampNeg, i10, i01, Nat.add_left_cancel_iff, Nat.left_eq_add, Nat.add_eq_left, cdX11_lose, F1, eq_false hx]
    exact hq h m0 sOff.rf
set_option maxRecDepth 100000 in
set_option maxHeartbeats 400000 in
theorem D_lacks {f i : Int32} {s : Nat} (hs : s < 4) (m : MI h M) (ok : MOk M) (hq0 : itF (M.fm s) f i (M.sz s) = 0 → Q (some (.int 0)) n h) (hq : ¬ itF (M.fm s) f i (M.sz s) = 0 → ∀ h', MI h' (fdM M (itF (M.fm s) f i (M.sz s))) → sOff h h' 52 80 → Q (some (.int (-10 - itF (M.fm s) f i (M.sz s)))) n h') : Ok 151 [.ref 52, .int (nI s), .int f, .int i] n h Q := by
  have m0 := m
  obtain ⟨c, a, l, m, r⟩ := m
  have hsz := ok.sz s hs
  refine ok_of kMX11_lacks kCX11_lacks (Nat.le_of_ble_eq_true rfl) (fun z => ?_)
  change A z _ _ 0 0 _ 0 [some (.ref 52), some (.int (nI s)), some (.int f), some (.int i)] [] _
  refine go_ok okF1 (C := cdX11_lacks) (by rfl) [31] 40 (by exact Nat.le_of_ble_eq_true rfl) ?_
  simp (maxSteps := 2000000) only [go, stp, inS, ↓reduceIte, Bool.false_eq_true, Nat.reduceLT, Nat.reduceEqDiff, Nat.reduceAdd, ldI, ldL, ldA, st1, st2, okS, List.getElem?_cons_zero, List.getElem?_cons_succ, List.length_cons, List.length_nil, List.set_cons_zero, List.set_cons_succ, callP, callF, popN, ct, Value.category, cI, List.getD_cons_zero, List.getD_cons_succ, and_self, and_true, true_and, Nat.zero_le, Nat.reduceLeDiff, Nat.add_zero, Nat.zero_add, List.nil_append, List.cons_append, Option.toList_some, Option.toList_none, List.append_nil, hset_ss, true_or, or_true, eq_self, beq_self_eq_true, List.drop_succ_cons, List.drop_zero, swT, swL, hset_ap, not_true_eq_false, not_false_eq_true, true_implies, false_implies, implies_true, Int32.reduceLE, Int32.reduceLT, Int32.reduceAdd, Int32.reduceSub, Int32.reduceOfInt, Int32.reduceToNatClampNeg, i10, i01, Nat.add_left_cancel_iff, Nat.left_eq_add, Nat.add_eq_left, cdX11_lacks, F1, m.o, m.a0, m.a1, i_cl (show s < 2147483648 by omega), r.fm hs]
  refine ⟨vp_in_nI (by omega) (by omega), fun c1 => ?_, fun c1 => ?_⟩
  · have hf : ¬ M.fm s = -1 := fun q => absurd c1 (i_nle.mpr ((fmn ok hs).mpr q))
    refine ⟨vp_in_nI (by omega) (by omega), fun c2 => ?_, fun c2 => ?_⟩
    · by_cases c3 : 0 ≤ i ∧ i < nI (M.sz s)
      · refine go_ok okF1 (C := cdX11_lacks) (by rfl) [] 40 (by exact Nat.le_of_ble_eq_true rfl) ?_
        simp (maxSteps := 2000000) only [go, stp, inS, ↓reduceIte, Bool.false_eq_true, Nat.reduceLT, Nat.reduceEqDiff, Nat.reduceAdd, ldI, ldL, ldA, st1, st2, okS, List.getElem?_cons_zero, List.getElem?_cons_succ, List.length_cons, List.length_nil, List.set_cons_zero, List.set_cons_succ, callP, callF, popN, ct, Value.category, cI, List.getD_cons_zero, List.getD_cons_succ, and_self, and_true, true_and, Nat.zero_le, Nat.reduceLeDiff, Nat.add_zero, Nat.zero_add, List.nil_append, List.cons_append, Option.toList_some, Option.toList_none, List.append_nil, hset_ss, true_or, or_true, eq_self, beq_self_eq_true, List.drop_succ_cons, List.drop_zero, swT, swL, hset_ap, not_true_eq_false, not_false_eq_true, true_implies, false_implies, implies_true, Int32.reduceLE, Int32.reduceLT, Int32.reduceAdd, Int32.reduceSub, Int32.reduceOfInt, Int32.reduceToNatClampNeg, i10, i01, Nat.add_left_cancel_iff, Nat.left_eq_add, Nat.add_eq_left, cdX11_lacks, F1, m.o, m.a1, i_cl (show s < 2147483648 by omega), r.sz hs hf, in0s (i := i) (show M.sz s < 1000 by omega), eq_true c3]
        exact ⟨vp_in_nI (by omega) (by omega), hq0 (by unfold itF; rw [if_neg hf, if_pos c2, if_pos c3])⟩
      · have e : itF (M.fm s) f i (M.sz s) = 2 := by unfold itF; rw [if_neg hf, if_pos c2, if_neg c3]
        rw [e] at hq
        refine go_ok okF1 (C := cdX11_lacks) (by rfl) [] 40 (by exact Nat.le_of_ble_eq_true rfl) ?_
        simp (maxSteps := 2000000) only [go, stp, inS, ↓reduceIte, Bool.false_eq_true, Nat.reduceLT, Nat.reduceEqDiff, Nat.reduceAdd, ldI, ldL, ldA, st1, st2, okS, List.getElem?_cons_zero, List.getElem?_cons_succ, List.length_cons, List.length_nil, List.set_cons_zero, List.set_cons_succ, callP, callF, popN, ct, Value.category, cI, List.getD_cons_zero, List.getD_cons_succ, and_self, and_true, true_and, Nat.zero_le, Nat.reduceLeDiff, Nat.add_zero, Nat.zero_add, List.nil_append, List.cons_append, Option.toList_some, Option.toList_none, List.append_nil, hset_ss, true_or, or_true, eq_self, beq_self_eq_true, List.drop_succ_cons, List.drop_zero, swT, swL, hset_ap, not_true_eq_false, not_false_eq_true, true_implies, false_implies, implies_true, Int32.reduceLE, Int32.reduceLT, Int32.reduceAdd, Int32.reduceSub, Int32.reduceOfInt, Int32.reduceToNatClampNeg, i10, i01, Nat.add_left_cancel_iff, Nat.left_eq_add, Nat.add_eq_left, cdX11_lacks, F1, m.o, m.a1, i_cl (show s < 2147483648 by omega), r.sz hs hf, in0s (i := i) (show M.sz s < 1000 by omega), eq_false c3]
        refine ⟨vp_in_nI (by omega) (by omega), ?_⟩
        refine D_met m0 (fun h' m' hO => ?_)
        refine go_ok okF1 (C := cdX11_lacks) (by rfl) [] 40 (by exact Nat.le_of_ble_eq_true rfl) ?_
        simp (maxSteps := 2000000) only [go, stp, inS, ↓reduceIte, Bool.false_eq_true, Nat.reduceLT, Nat.reduceEqDiff, Nat.reduceAdd, ldI, ldL, ldA, st1, st2, okS, List.getElem?_cons_zero, List.getElem?_cons_succ, List.length_cons, List.length_nil, List.set_cons_zero, List.set_cons_succ, callP, callF, popN, ct, Value.category, cI, List.getD_cons_zero, List.getD_cons_succ, and_self, and_true, true_and, Nat.zero_le, Nat.reduceLeDiff, Nat.add_zero, Nat.zero_add, List.nil_append, List.cons_append, Option.toList_some, Option.toList_none, List.append_nil, hset_ss, true_or, or_true, eq_self, beq_self_eq_true, List.drop_succ_cons, List.drop_zero, swT, swL, hset_ap, not_true_eq_false, not_false_eq_true, true_implies, false_implies, implies_true, Int32.reduceLE, Int32.reduceLT, Int32.reduceAdd, Int32.reduceSub, Int32.reduceOfInt, Int32.reduceToNatClampNeg, i10, i01, Nat.add_left_cancel_iff, Nat.left_eq_add, Nat.add_eq_left, cdX11_lacks, F1]
        exact hq (by decide) h' m' hO
    · have e : itF (M.fm s) f i (M.sz s) = 3 := by unfold itF; rw [if_neg hf, if_neg c2]
      rw [e] at hq
      refine D_met m0 (fun h' m' hO => ?_)
      refine go_ok okF1 (C := cdX11_lacks) (by rfl) [] 40 (by exact Nat.le_of_ble_eq_true rfl) ?_
      simp (maxSteps := 2000000) only [go, stp, inS, ↓reduceIte, Bool.false_eq_true, Nat.reduceLT, Nat.reduceEqDiff, Nat.reduceAdd, ldI, ldL, ldA, st1, st2, okS, List.getElem?_cons_zero, List.getElem?_cons_succ, List.length_cons, List.length_nil, List.set_cons_zero, List.set_cons_succ, callP, callF, popN, ct, Value.category, cI, List.getD_cons_zero, List.getD_cons_succ, and_self, and_true, true_and, Nat.zero_le, Nat.reduceLeDiff, Nat.add_zero, Nat.zero_add, List.nil_append, List.cons_append, Option.toList_some, Option.toList_none, List.append_nil, hset_ss, true_or, or_true, eq_self, beq_self_eq_true, List.drop_succ_cons, List.drop_zero, swT, swL, hset_ap, not_true_eq_false, not_false_eq_true, true_implies, false_implies, implies_true, Int32.reduceLE, Int32.reduceLT, Int32.reduceAdd, Int32.reduceSub, Int32.reduceOfInt, Int32.reduceToNatClampNeg, i10, i01, Nat.add_left_cancel_iff, Nat.left_eq_add, Nat.add_eq_left, cdX11_lacks, F1]
      exact hq (by decide) h' m' hO
  · have hf : M.fm s = -1 := (fmn ok hs).mp (i_nle.mp c1)
    have e : itF (M.fm s) f i (M.sz s) = 1 := by unfold itF; rw [if_pos hf]
    rw [e] at hq
    refine D_met m0 (fun h' m' hO => ?_)
    refine go_ok okF1 (C := cdX11_lacks) (by rfl) [] 40 (by exact Nat.le_of_ble_eq_true rfl) ?_
    simp (maxSteps := 2000000) only [go, stp, inS, ↓reduceIte, Bool.false_eq_true, Nat.reduceLT, Nat.reduceEqDiff, Nat.reduceAdd, ldI, ldL, ldA, st1, st2, okS, List.getElem?_cons_zero, List.getElem?_cons_succ, List.length_cons, List.length_nil, List.set_cons_zero, List.set_cons_succ, callP, callF, popN, ct, Value.category, cI, List.getD_cons_zero, List.getD_cons_succ, and_self, and_true, true_and, Nat.zero_le, Nat.reduceLeDiff, Nat.add_zero, Nat.zero_add, List.nil_append, List.cons_append, Option.toList_some, Option.toList_none, List.append_nil, hset_ss, true_or, or_true, eq_self, beq_self_eq_true, List.drop_succ_cons, List.drop_zero, swT, swL, hset_ap, not_true_eq_false, not_false_eq_true, true_implies, false_implies, implies_true, Int32.reduceLE, Int32.reduceLT, Int32.reduceAdd, Int32.reduceSub, Int32.reduceOfInt, Int32.reduceToNatClampNeg, i10, i01, Nat.add_left_cancel_iff, Nat.left_eq_add, Nat.add_eq_left, cdX11_lacks, F1]
    exact hq (by decide) h' m' hO
theorem it0 {fm f i : Int32} {k : Nat} (h : itF fm f i k = 0) : ¬ fm = -1 ∧ fm = f ∧ 0 ≤ i ∧ i < nI k := by
  unfold itF at h
  by_cases c1 : fm = -1
  · rw [if_pos c1] at h; exact absurd h (by decide)
  · rw [if_neg c1] at h
    by_cases c2 : fm = f
    · rw [if_pos c2] at h
      by_cases c3 : 0 ≤ i ∧ i < nI k
      · exact ⟨c1, c2, c3⟩
      · rw [if_neg c3] at h; exact absurd h (by decide)
    · rw [if_neg c2] at h; exact absurd h (by decide)
theorem it_nz (fm f i : Int32) (k : Nat) : ¬ -10 - itF fm f i k = 0 := by
  unfold itF
  split
  · decide
  split
  · split <;> decide
  · decide
set_option maxRecDepth 100000 in
set_option maxHeartbeats 400000 in
theorem D_lay {x f i : Int32} {v : Int64} (m : MI h M) (ok : MOk M) (hq : ∀ h', MI h' (stLay M x f i v).2 → sOff h h' 52 80 → Q (some (.int (stLay M x f i v).1)) n h') : Ok 153 [.ref 52, .int x, .int f, .int i, .long v] n h Q := by
  unfold stLay at hq
  have m0 := m
  obtain ⟨c, a, l, m, r⟩ := m
  refine ok_of kMX11_lay kCX11_lay (Nat.le_of_ble_eq_true rfl) (fun z => ?_)
  change A z _ _ 0 0 _ 0 [some (.ref 52), some (.int x), some (.int f), some (.int i), some (.long v), none, none] [] _
  by_cases hx : 0 ≤ x ∧ x < 4
  · by_cases hf : 0 ≤ f ∧ f < 4
    · obtain ⟨s, hs, rfl⟩ := i_of (n := 4) (by omega) (i_nlt.mpr hx.1) hx.2
      rw [if_pos ⟨hx, hf⟩, i_cl (show s < 2147483648 by omega)] at hq
      have hsz := ok.sz s hs
      refine go_ok okF1 (C := cdX11_lay) (by rfl) [] 40 (by exact Nat.le_of_ble_eq_true rfl) ?_
      simp (maxSteps := 2000000) only [go, stp, inS, ↓reduceIte, Bool.false_eq_true, Nat.reduceLT, Nat.reduceEqDiff, Nat.reduceAdd, ldI, ldL, ldA, st1, st2, okS, List.getElem?_cons_zero, List.getElem?_cons_succ, List.length_cons, List.length_nil, List.set_cons_zero, List.set_cons_succ, callP, callF, popN, ct, Value.category, cI, List.getD_cons_zero, List.getD_cons_succ, and_self, and_true, true_and, Nat.zero_le, Nat.reduceLeDiff, Nat.add_zero, Nat.zero_add, List.nil_append, List.cons_append, Option.toList_some, Option.toList_none, List.append_nil, hset_ss, true_or, or_true, eq_self, beq_self_eq_true, List.drop_succ_cons, List.drop_zero, swT, swL, hset_ap, not_true_eq_false, not_false_eq_true, true_implies, false_implies, implies_true, Int32.reduceLE, Int32.reduceLT, Int32.reduceAdd, Int32.reduceSub, Int32.reduceOfInt, Int32.reduceToNatClampNeg, i10, i01, Nat.add_left_cancel_iff, Nat.left_eq_add, Nat.add_eq_left, cdX11_lay, F1, eq_true hx, in03, eq_true hf, m.o]
      refine D_lacks hs m0 ok (fun e => ?_) (fun e h' m' hO => ?_)
      · rw [if_pos e] at hq
        obtain ⟨e1, e2, e3, e4⟩ := it0 e
        obtain ⟨j, hj, rfl⟩ := i_of (by omega) (i_nlt.mpr e3) e4
        rw [i_cl (show j < 2147483648 by omega)] at hq
        refine go_ok okF1 (C := cdX11_lay) (by rfl) [] 40 (by exact Nat.le_of_ble_eq_true rfl) ?_
        simp (maxSteps := 2000000) only [go, stp, inS, ↓reduceIte, Bool.false_eq_true, Nat.reduceLT, Nat.reduceEqDiff, Nat.reduceAdd, ldI, ldL, ldA, st1, st2, okS, List.getElem?_cons_zero, List.getElem?_cons_succ, List.length_cons, List.length_nil, List.set_cons_zero, List.set_cons_succ, callP, callF, popN, ct, Value.category, cI, List.getD_cons_zero, List.getD_cons_succ, and_self, and_true, true_and, Nat.zero_le, Nat.reduceLeDiff, Nat.add_zero, Nat.zero_add, List.nil_append, List.cons_append, Option.toList_some, Option.toList_none, List.append_nil, hset_ss, true_or, or_true, eq_self, beq_self_eq_true, List.drop_succ_cons, List.drop_zero, swT, swL, hset_ap, not_true_eq_false, not_false_eq_true, true_implies, false_implies, implies_true, Int32.reduceLE, Int32.reduceLT, Int32.reduceAdd, Int32.reduceSub, Int32.reduceOfInt, Int32.reduceToNatClampNeg, i10, i01, Nat.add_left_cancel_iff, Nat.left_eq_add, Nat.add_eq_left, cdX11_lay, F1, m.o, m.a2, ix48, i_cl (show 48 * s + j < 2147483648 by omega)]
        refine ⟨vp_in_nI (by omega) (by omega), ?_⟩
        refine hq _ ⟨c, a, _, m.s2 _, r.1, r.2.1, r.2.2.1, r.2.2.2.1, r.2.2.2.2.1, fun s' hs' => ?_, fun s' hs' hf' => ?_, fun s' i' hs' hf' hi' => ?_⟩ (sOff.rf.set (by omega) (by omega))
        · show a 0 s' = fset M.fm s f s'
          by_cases e : s' = s
          · subst e; rw [fset_s]; exact (r.fm hs').trans e2
          · rw [fset_n _ _ e]; exact r.fm hs'
        · have hf' : ¬ fset M.fm s f s' = -1 := hf'
          show a 1 s' = nI (fset M.sz s (M.sz s) s')
          by_cases e : s' = s
          · subst e; rw [fset_s]; exact r.sz hs' e1
          · rw [fset_n _ _ e] at hf' ⊢; exact r.sz hs' hf'
        · have hf' : ¬ fset M.fm s f s' = -1 := hf'
          have hi' : i' < fset M.sz s (M.sz s) s' := hi'
          show vp_updL (l 2) (48 * s + j) (nwF f v) (48 * s' + i') = fset M.I s (vp_updL (M.I s) j (nwF f v)) s' i'
          by_cases e : s' = s
          · subst e; rw [fset_s] at hi' ⊢
            by_cases e5 : i' = j
            · subst e5; rw [pk_uLs, pk_uLs]
            · rw [pk_uLn (by omega), pk_uLn e5]; exact r.it hs' e1 hi'
          · rw [fset_n _ _ e] at hf' hi' ⊢
            have := ok.sz s' hs'
            rw [pk_uLn (by omega)]; exact r.it hs' hf' hi'
      · rw [if_neg e] at hq
        refine go_ok okF1 (C := cdX11_lay) (by rfl) [] 40 (by exact Nat.le_of_ble_eq_true rfl) ?_
        simp (maxSteps := 2000000) only [go, stp, inS, ↓reduceIte, Bool.false_eq_true, Nat.reduceLT, Nat.reduceEqDiff, Nat.reduceAdd, ldI, ldL, ldA, st1, st2, okS, List.getElem?_cons_zero, List.getElem?_cons_succ, List.length_cons, List.length_nil, List.set_cons_zero, List.set_cons_succ, callP, callF, popN, ct, Value.category, cI, List.getD_cons_zero, List.getD_cons_succ, and_self, and_true, true_and, Nat.zero_le, Nat.reduceLeDiff, Nat.add_zero, Nat.zero_add, List.nil_append, List.cons_append, Option.toList_some, Option.toList_none, List.append_nil, hset_ss, true_or, or_true, eq_self, beq_self_eq_true, List.drop_succ_cons, List.drop_zero, swT, swL, hset_ap, not_true_eq_false, not_false_eq_true, true_implies, false_implies, implies_true, Int32.reduceLE, Int32.reduceLT, Int32.reduceAdd, Int32.reduceSub, Int32.reduceOfInt, Int32.reduceToNatClampNeg, i10, i01, Nat.add_left_cancel_iff, Nat.left_eq_add, Nat.add_eq_left, cdX11_lay, F1, it_nz]
        exact hq h' m' hO
    · rw [if_neg (fun q => hf q.2)] at hq
      refine go_ok okF1 (C := cdX11_lay) (by rfl) [] 40 (by exact Nat.le_of_ble_eq_true rfl) ?_
      simp (maxSteps := 2000000) only [go, stp, inS, ↓reduceIte, Bool.false_eq_true, Nat.reduceLT, Nat.reduceEqDiff, Nat.reduceAdd, ldI, ldL, ldA, st1, st2, okS, List.getElem?_cons_zero, List.getElem?_cons_succ, List.length_cons, List.length_nil, List.set_cons_zero, List.set_cons_succ, callP, callF, popN, ct, Value.category, cI, List.getD_cons_zero, List.getD_cons_succ, and_self, and_true, true_and, Nat.zero_le, Nat.reduceLeDiff, Nat.add_zero, Nat.zero_add, List.nil_append, List.cons_append, Option.toList_some, Option.toList_none, List.append_nil, hset_ss, true_or, or_true, eq_self, beq_self_eq_true, List.drop_succ_cons, List.drop_zero, swT, swL, hset_ap, not_true_eq_false, not_false_eq_true, true_implies, false_implies, implies_true, Int32.reduceLE, Int32.reduceLT, Int32.reduceAdd, Int32.reduceSub, Int32.reduceOfInt, Int32.reduceToNatClampNeg, i10, i01, Nat.add_left_cancel_iff, Nat.left_eq_add, Nat.add_eq_left, cdX11_lay, F1, eq_true hx, in03, eq_false hf]
      exact hq h m0 sOff.rf
  · rw [if_neg (fun q => hx q.1)] at hq
    refine go_ok okF1 (C := cdX11_lay) (by rfl) [] 40 (by exact Nat.le_of_ble_eq_true rfl) ?_
    simp (maxSteps := 2000000) only [go, stp, inS, ↓reduceIte, Bool.false_eq_true, Nat.reduceLT, Nat.reduceEqDiff, Nat.reduceAdd, ldI, ldL, ldA, st1, st2, okS, List.getElem?_cons_zero, List.getElem?_cons_succ, List.length_cons, List.length_nil, List.set_cons_zero, List.set_cons_succ, callP, callF, popN, ct, Value.category, cI, List.getD_cons_zero, List.getD_cons_succ, and_self, and_true, true_and, Nat.zero_le, Nat.reduceLeDiff, Nat.add_zero, Nat.zero_add, List.nil_append, List.cons_append, Option.toList_some, Option.toList_none, List.append_nil, hset_ss, true_or, or_true, eq_self, beq_self_eq_true, List.drop_succ_cons, List.drop_zero, swT, swL, hset_ap, not_true_eq_false, not_false_eq_true, true_implies, false_implies, implies_true, Int32.reduceLE, Int32.reduceLT, Int32.reduceAdd, Int32.reduceSub, Int32.reduceOfInt, Int32.reduceToNatClampNeg, i10, i01, Nat.add_left_cancel_iff, Nat.left_eq_add, Nat.add_eq_left, cdX11_lay, F1, eq_false hx]
    exact hq h m0 sOff.rf
set_option maxRecDepth 100000 in
set_option maxHeartbeats 400000 in
theorem D_get {x f i : Int32} (m : MI h M) (ok : MOk M) (hq : ∀ h', MI h' (stGet M x f i).2 → sOff h h' 52 80 → Q (some (.long (stGet M x f i).1)) n h') : Ok 154 [.ref 52, .int x, .int f, .int i] n h Q := by
  unfold stGet at hq
  have m0 := m
  obtain ⟨c, a, l, m, r⟩ := m
  refine ok_of kMX11_get kCX11_get (Nat.le_of_ble_eq_true rfl) (fun z => ?_)
  change A z _ _ 0 0 _ 0 [some (.ref 52), some (.int x), some (.int f), some (.int i)] [] _
  by_cases hx : 0 ≤ x ∧ x < 4
  · by_cases hf : 0 ≤ f ∧ f < 4
    · obtain ⟨s, hs, rfl⟩ := i_of (n := 4) (by omega) (i_nlt.mpr hx.1) hx.2
      rw [if_pos ⟨hx, hf⟩, i_cl (show s < 2147483648 by omega)] at hq
      have hsz := ok.sz s hs
      refine go_ok okF1 (C := cdX11_get) (by rfl) [] 40 (by exact Nat.le_of_ble_eq_true rfl) ?_
      simp (maxSteps := 2000000) only [go, stp, inS, ↓reduceIte, Bool.false_eq_true, Nat.reduceLT, Nat.reduceEqDiff, Nat.reduceAdd, ldI, ldL, ldA, st1, st2, okS, List.getElem?_cons_zero, List.getElem?_cons_succ, List.length_cons, List.length_nil, List.set_cons_zero, List.set_cons_succ, callP, callF, popN, ct, Value.category, cI, List.getD_cons_zero, List.getD_cons_succ, and_self, and_true, true_and, Nat.zero_le, Nat.reduceLeDiff, Nat.add_zero, Nat.zero_add, List.nil_append, List.cons_append, Option.toList_some, Option.toList_none, List.append_nil, hset_ss, true_or, or_true, eq_self, beq_self_eq_true, List.drop_succ_cons, List.drop_zero, swT, swL, hset_ap, not_true_eq_false, not_false_eq_true, true_implies, false_implies, implies_true, Int32.reduceLE, Int32.reduceLT, Int32.reduceAdd, Int32.reduceSub, Int32.reduceOfInt, Int32.reduceToNatClampNeg, i10, i01, Nat.add_left_cancel_iff, Nat.left_eq_add, Nat.add_eq_left, cdX11_get, F1, eq_true hx, in03, eq_true hf, m.o]
      refine D_lacks hs m0 ok (fun e => ?_) (fun e h' m' hO => ?_)
      · rw [if_pos e] at hq
        obtain ⟨e1, e2, e3, e4⟩ := it0 e
        obtain ⟨j, hj, rfl⟩ := i_of (by omega) (i_nlt.mpr e3) e4
        rw [i_cl (show j < 2147483648 by omega)] at hq
        refine go_ok okF1 (C := cdX11_get) (by rfl) [] 40 (by exact Nat.le_of_ble_eq_true rfl) ?_
        simp (maxSteps := 2000000) only [go, stp, inS, ↓reduceIte, Bool.false_eq_true, Nat.reduceLT, Nat.reduceEqDiff, Nat.reduceAdd, ldI, ldL, ldA, st1, st2, okS, List.getElem?_cons_zero, List.getElem?_cons_succ, List.length_cons, List.length_nil, List.set_cons_zero, List.set_cons_succ, callP, callF, popN, ct, Value.category, cI, List.getD_cons_zero, List.getD_cons_succ, and_self, and_true, true_and, Nat.zero_le, Nat.reduceLeDiff, Nat.add_zero, Nat.zero_add, List.nil_append, List.cons_append, Option.toList_some, Option.toList_none, List.append_nil, hset_ss, true_or, or_true, eq_self, beq_self_eq_true, List.drop_succ_cons, List.drop_zero, swT, swL, hset_ap, not_true_eq_false, not_false_eq_true, true_implies, false_implies, implies_true, Int32.reduceLE, Int32.reduceLT, Int32.reduceAdd, Int32.reduceSub, Int32.reduceOfInt, Int32.reduceToNatClampNeg, i10, i01, Nat.add_left_cancel_iff, Nat.left_eq_add, Nat.add_eq_left, cdX11_get, F1, m.o, m.a2, ix48, i_cl (show 48 * s + j < 2147483648 by omega), r.it hs e1 hj]
        exact ⟨vp_in_nI (by omega) (by omega), hq h m0 sOff.rf⟩
      · rw [if_neg e] at hq
        refine go_ok okF1 (C := cdX11_get) (by rfl) [] 40 (by exact Nat.le_of_ble_eq_true rfl) ?_
        simp (maxSteps := 2000000) only [go, stp, inS, ↓reduceIte, Bool.false_eq_true, Nat.reduceLT, Nat.reduceEqDiff, Nat.reduceAdd, ldI, ldL, ldA, st1, st2, okS, List.getElem?_cons_zero, List.getElem?_cons_succ, List.length_cons, List.length_nil, List.set_cons_zero, List.set_cons_succ, callP, callF, popN, ct, Value.category, cI, List.getD_cons_zero, List.getD_cons_succ, and_self, and_true, true_and, Nat.zero_le, Nat.reduceLeDiff, Nat.add_zero, Nat.zero_add, List.nil_append, List.cons_append, Option.toList_some, Option.toList_none, List.append_nil, hset_ss, true_or, or_true, eq_self, beq_self_eq_true, List.drop_succ_cons, List.drop_zero, swT, swL, hset_ap, not_true_eq_false, not_false_eq_true, true_implies, false_implies, implies_true, Int32.reduceLE, Int32.reduceLT, Int32.reduceAdd, Int32.reduceSub, Int32.reduceOfInt, Int32.reduceToNatClampNeg, i10, i01, Nat.add_left_cancel_iff, Nat.left_eq_add, Nat.add_eq_left, cdX11_get, F1, it_nz]
        exact hq h' m' hO
    · rw [if_neg (fun q => hf q.2)] at hq
      refine go_ok okF1 (C := cdX11_get) (by rfl) [] 40 (by exact Nat.le_of_ble_eq_true rfl) ?_
      simp (maxSteps := 2000000) only [go, stp, inS, ↓reduceIte, Bool.false_eq_true, Nat.reduceLT, Nat.reduceEqDiff, Nat.reduceAdd, ldI, ldL, ldA, st1, st2, okS, List.getElem?_cons_zero, List.getElem?_cons_succ, List.length_cons, List.length_nil, List.set_cons_zero, List.set_cons_succ, callP, callF, popN, ct, Value.category, cI, List.getD_cons_zero, List.getD_cons_succ, and_self, and_true, true_and, Nat.zero_le, Nat.reduceLeDiff, Nat.add_zero, Nat.zero_add, List.nil_append, List.cons_append, Option.toList_some, Option.toList_none, List.append_nil, hset_ss, true_or, or_true, eq_self, beq_self_eq_true, List.drop_succ_cons, List.drop_zero, swT, swL, hset_ap, not_true_eq_false, not_false_eq_true, true_implies, false_implies, implies_true, Int32.reduceLE, Int32.reduceLT, Int32.reduceAdd, Int32.reduceSub, Int32.reduceOfInt, Int32.reduceToNatClampNeg, i10, i01, Nat.add_left_cancel_iff, Nat.left_eq_add, Nat.add_eq_left, cdX11_get, F1, eq_true hx, in03, eq_false hf]
      exact hq h m0 sOff.rf
  · rw [if_neg (fun q => hx q.1)] at hq
    refine go_ok okF1 (C := cdX11_get) (by rfl) [] 40 (by exact Nat.le_of_ble_eq_true rfl) ?_
    simp (maxSteps := 2000000) only [go, stp, inS, ↓reduceIte, Bool.false_eq_true, Nat.reduceLT, Nat.reduceEqDiff, Nat.reduceAdd, ldI, ldL, ldA, st1, st2, okS, List.getElem?_cons_zero, List.getElem?_cons_succ, List.length_cons, List.length_nil, List.set_cons_zero, List.set_cons_succ, callP, callF, popN, ct, Value.category, cI, List.getD_cons_zero, List.getD_cons_succ, and_self, and_true, true_and, Nat.zero_le, Nat.reduceLeDiff, Nat.add_zero, Nat.zero_add, List.nil_append, List.cons_append, Option.toList_some, Option.toList_none, List.append_nil, hset_ss, true_or, or_true, eq_self, beq_self_eq_true, List.drop_succ_cons, List.drop_zero, swT, swL, hset_ap, not_true_eq_false, not_false_eq_true, true_implies, false_implies, implies_true, Int32.reduceLE, Int32.reduceLT, Int32.reduceAdd, Int32.reduceSub, Int32.reduceOfInt, Int32.reduceToNatClampNeg, i10, i01, Nat.add_left_cancel_iff, Nat.left_eq_add, Nat.add_eq_left, cdX11_get, F1, eq_false hx]
    exact hq h m0 sOff.rf
end MB
