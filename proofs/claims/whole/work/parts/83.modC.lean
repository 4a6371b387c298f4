
/-! the model: the table, texts as bytes, what is set -/
theorem clr8 : ∀ j, j < 256 → j = 0 ∨ (nI j &&& (nI j - 1) = nI (j &&& (j - 1)) ∧ (j &&& (j - 1)) < j ∧ pcN (nI (j &&& (j - 1))) 8 + 1 = pcN (nI j) 8) := by decide +kernel
theorem ix40 (s i : Nat) : (40 : Int32) * nI s + nI i = nI (40 * s + i) := by rw [show (40 : Int32) = nI 40 from rfl, pk_mul, nI_add]
theorem ix3 (i : Nat) : (3 : Int32) * nI i = nI (3 * i) := by rw [show (3 : Int32) = nI 3 from rfl, pk_mul]
theorem ix2 (i : Nat) : nI i + (2 : Int32) = nI (i + 2) := nI_add i 2
theorem in0b (x : Int32) : ((0 : Int64) ≤ x.toInt64 ∧ x.toInt64 ≤ 255) = (0 ≤ x ∧ x ≤ 255) := by
  rw [show (255 : Int64) = (255 : Int32).toInt64 from rfl, show (0 : Int64) = (0 : Int32).toInt64 from rfl, in64]
theorem in01 (x : Int32) : ((0 : Int64) ≤ x.toInt64 ∧ x.toInt64 ≤ 1) = (0 ≤ x ∧ x < 2) := by
  rw [show (1 : Int64) = (1 : Int32).toInt64 from rfl, show (0 : Int64) = (0 : Int32).toInt64 from rfl, in64, lt_le (a := 2) (b := 1) (k := 1) rfl rfl]
theorem in07 (x : Int32) : ((0 : Int64) ≤ x.toInt64 ∧ x.toInt64 ≤ 7) = (0 ≤ x ∧ x < 8) := by
  rw [show (7 : Int64) = (7 : Int32).toInt64 from rfl, show (0 : Int64) = (0 : Int32).toInt64 from rfl, in64, lt_le (a := 8) (b := 7) (k := 7) rfl rfl]
section MC
variable {n : Nat} {h : aH} {Q : aQ} {M : MS} {c : Nat → Int32} {a : Nat → Nat → Int32} {l : Nat → Nat → Int64}
set_option maxRecDepth 100000 in
set_option maxHeartbeats 400000 in
theorem D_ones {j : Nat} (hj : j < 256) (hq : Q (some (.int (nI (pcN (nI j) 8)))) n h) : Ok 193 [.int (nI j)] n h Q := by
  refine ok_of kMX11_onesOf kCX11_onesOf (Nat.le_of_ble_eq_true rfl) (fun z => ?_)
  change A z _ _ 0 0 _ 0 [some (.int (nI j)), none, none] [] _
  refine go_ok okF1 (C := cdX11_onesOf) (by rfl) [4] 20 (by exact Nat.le_of_ble_eq_true rfl) ?_
  simp (maxSteps := 2000000) only [go, stp, inS, ↓reduceIte, Bool.false_eq_true, Nat.reduceLT, Nat.reduceEqDiff, Nat.reduceAdd, ldI, ldL, ldA, st1, st2, okS, List.getElem?_cons_zero, List.getElem?_cons_succ, List.length_cons, List.length_nil, List.set_cons_zero, List.set_cons_succ, callP, callF, popN, ct, Value.category, cI, List.getD_cons_zero, List.getD_cons_succ, and_self, and_true, true_and, Nat.zero_le, Nat.reduceLeDiff, Nat.add_zero, Nat.zero_add, List.nil_append, List.cons_append, Option.toList_some, Option.toList_none, List.append_nil, hset_ss, true_or, or_true, eq_self, beq_self_eq_true, List.drop_succ_cons, List.drop_zero, swT, swL, hset_ap, not_true_eq_false, not_false_eq_true, true_implies, false_implies, implies_true, Int32.reduceLE, Int32.reduceLT, Int32.reduceAdd, Int32.reduceSub, Int32.reduceOfInt, Int32.reduceToNatClampNeg, i10, i01, Nat.add_left_cancel_iff, Nat.left_eq_add, Nat.add_eq_left, cdX11_onesOf, F1]
  have loop : ∀ q k i, k < q → k < 256 → i + pcN (nI k) 8 = pcN (nI j) 8 → A z 193 n 0 0 h 4 [some (.int (nI j)), some (.int (nI i)), some (.int (nI k))] [] Q := by
    intro q
    induction q with
    | zero => intro k i h1; omega
    | succ q ih =>
      intro k i h1 h2 h3
      rcases clr8 k h2 with e | ⟨e1, e2, e3⟩
      · subst e
        refine go_ok okF1 (C := cdX11_onesOf) (by rfl) [] 20 (by exact Nat.le_of_ble_eq_true rfl) ?_
        simp (maxSteps := 2000000) only [go, stp, inS, ↓reduceIte, Bool.false_eq_true, Nat.reduceLT, Nat.reduceEqDiff, Nat.reduceAdd, ldI, ldL, ldA, st1, st2, okS, List.getElem?_cons_zero, List.getElem?_cons_succ, List.length_cons, List.length_nil, List.set_cons_zero, List.set_cons_succ, callP, callF, popN, ct, Value.category, cI, List.getD_cons_zero, List.getD_cons_succ, and_self, and_true, true_and, Nat.zero_le, Nat.reduceLeDiff, Nat.add_zero, Nat.zero_add, List.nil_append, List.cons_append, Option.toList_some, Option.toList_none, List.append_nil, hset_ss, true_or, or_true, eq_self, beq_self_eq_true, List.drop_succ_cons, List.drop_zero, swT, swL, hset_ap, not_true_eq_false, not_false_eq_true, true_implies, false_implies, implies_true, Int32.reduceLE, Int32.reduceLT, Int32.reduceAdd, Int32.reduceSub, Int32.reduceOfInt, Int32.reduceToNatClampNeg, i10, i01, Nat.add_left_cancel_iff, Nat.left_eq_add, Nat.add_eq_left, cdX11_onesOf, F1, (show nI 0 = 0 from rfl)]
        rw [show pcN (nI 0) 8 = 0 from by decide, Nat.add_zero] at h3
        rw [h3]; exact hq
      · have e0 : ¬ nI k = 0 := nI_ne0 (by omega) (by omega)
        refine go_ok okF1 (C := cdX11_onesOf) (by rfl) [4] 20 (by exact Nat.le_of_ble_eq_true rfl) ?_
        simp (maxSteps := 2000000) only [go, stp, inS, ↓reduceIte, Bool.false_eq_true, Nat.reduceLT, Nat.reduceEqDiff, Nat.reduceAdd, ldI, ldL, ldA, st1, st2, okS, List.getElem?_cons_zero, List.getElem?_cons_succ, List.length_cons, List.length_nil, List.set_cons_zero, List.set_cons_succ, callP, callF, popN, ct, Value.category, cI, List.getD_cons_zero, List.getD_cons_succ, and_self, and_true, true_and, Nat.zero_le, Nat.reduceLeDiff, Nat.add_zero, Nat.zero_add, List.nil_append, List.cons_append, Option.toList_some, Option.toList_none, List.append_nil, hset_ss, true_or, or_true, eq_self, beq_self_eq_true, List.drop_succ_cons, List.drop_zero, swT, swL, hset_ap, not_true_eq_false, not_false_eq_true, true_implies, false_implies, implies_true, Int32.reduceLE, Int32.reduceLT, Int32.reduceAdd, Int32.reduceSub, Int32.reduceOfInt, Int32.reduceToNatClampNeg, i10, i01, Nat.add_left_cancel_iff, Nat.left_eq_add, Nat.add_eq_left, cdX11_onesOf, F1, e0, e1, nI_1]
        exact ih _ (i + 1) (by omega) (by omega) (by omega)
  exact loop (j + 1) j 0 (by omega) hj (by omega)
theorem mR.tb (r : mR M c a l) {q : Nat} (hq : q < M.nr * 3) : a 6 q = M.f q := r.2.1 q hq
theorem mR.ln (r : mR M c a l) {t : Nat} (ht : t < 2) : a 10 t = nI (M.len t) := r.2.2.1 t ht
theorem mR.tx (r : mR M c a l) {t i : Nat} (ht : t < 2) (hi : i < M.len t) : a 9 (40 * t + i) = M.B t i := r.2.2.2.1 t i ht hi
theorem mR.pa (r : mR M c a l) {b : Nat} (hb : b < 8) : a 40 b = M.P b := r.2.2.2.2.1 b hb
theorem mR.nr (r : mR M c a l) : c 5 = nI M.nr := r.1.2.1
theorem mR.ru (r : mR M c a l) : c 28 = M.ru := r.1.2.2.1
theorem mR.fa (r : mR M c a l) : c 29 = M.fa := r.1.2.2.2
set_option maxRecDepth 100000 in
set_option maxHeartbeats 400000 in
theorem D_adds {x y w : Int64} (m : MI h M) (ok : MOk M) (hq0 : ¬ (okL x ∧ okL y ∧ okL w) → Q (some (.int (-2))) n h) (hq1 : okL x ∧ okL y ∧ okL w → ¬ M.nr < 8 → Q (some (.int (-4))) n h) (hq2 : okL x ∧ okL y ∧ okL w → M.nr < 8 → ∀ h', MI h' (apM M x.toInt32 y.toInt32 w.toInt32) → sOff h h' 52 80 → Q (some (.int (nI M.nr))) n h') : Ok 158 [.ref 52, .long x, .long y, .long w] n h Q := by
  have m0 := m
  have hnr := ok.nr
  obtain ⟨c, a, l, m, r⟩ := m
  refine ok_of kMX11_adds kCX11_adds (Nat.le_of_ble_eq_true rfl) (fun z => ?_)
  change A z _ _ 0 0 _ 0 [some (.ref 52), some (.long x), none, some (.long y), none, some (.long w), none] [] _
  have bad : ¬ (okL x ∧ okL y ∧ okL w) → A z 158 n 0 0 h 22 [some (.ref 52), some (.long x), none, some (.long y), none, some (.long w), none] [] Q := fun hc => by
    refine go_ok okF1 (C := cdX11_adds) (by rfl) [] 20 (by exact Nat.le_of_ble_eq_true rfl) ?_
    simp (maxSteps := 2000000) only [go, stp, inS, ↓reduceIte, Bool.false_eq_true, Nat.reduceLT, Nat.reduceEqDiff, Nat.reduceAdd, ldI, ldL, ldA, st1, st2, okS, List.getElem?_cons_zero, List.getElem?_cons_succ, List.length_cons, List.length_nil, List.set_cons_zero, List.set_cons_succ, callP, callF, popN, ct, Value.category, cI, List.getD_cons_zero, List.getD_cons_succ, and_self, and_true, true_and, Nat.zero_le, Nat.reduceLeDiff, Nat.add_zero, Nat.zero_add, List.nil_append, List.cons_append, Option.toList_some, Option.toList_none, List.append_nil, hset_ss, true_or, or_true, eq_self, beq_self_eq_true, List.drop_succ_cons, List.drop_zero, swT, swL, hset_ap, not_true_eq_false, not_false_eq_true, true_implies, false_implies, implies_true, Int32.reduceLE, Int32.reduceLT, Int32.reduceAdd, Int32.reduceSub, Int32.reduceOfInt, Int32.reduceToNatClampNeg, i10, i01, Nat.add_left_cancel_iff, Nat.left_eq_add, Nat.add_eq_left, cdX11_adds, F1]
    exact hq0 hc
  refine go_ok okF1 (C := cdX11_adds) (by rfl) [22, 25] 40 (by exact Nat.le_of_ble_eq_true rfl) ?_
  simp (maxSteps := 2000000) only [go, stp, inS, ↓reduceIte, Bool.false_eq_true, Nat.reduceLT, Nat.reduceEqDiff, Nat.reduceAdd, ldI, ldL, ldA, st1, st2, okS, List.getElem?_cons_zero, List.getElem?_cons_succ, List.length_cons, List.length_nil, List.set_cons_zero, List.set_cons_succ, callP, callF, popN, ct, Value.category, cI, List.getD_cons_zero, List.getD_cons_succ, and_self, and_true, true_and, Nat.zero_le, Nat.reduceLeDiff, Nat.add_zero, Nat.zero_add, List.nil_append, List.cons_append, Option.toList_some, Option.toList_none, List.append_nil, hset_ss, true_or, or_true, eq_self, beq_self_eq_true, List.drop_succ_cons, List.drop_zero, swT, swL, hset_ap, not_true_eq_false, not_false_eq_true, true_implies, false_implies, implies_true, Int32.reduceLE, Int32.reduceLT, Int32.reduceAdd, Int32.reduceSub, Int32.reduceOfInt, Int32.reduceToNatClampNeg, i10, i01, Nat.add_left_cancel_iff, Nat.left_eq_add, Nat.add_eq_left, cdX11_adds, F1, ib0]
  refine ⟨fun c1 => bad (fun q => c1 q.1), fun c1 => ⟨fun c2 => bad (fun q => c2 q.2.1), fun c2 => ⟨fun c3 => ?_, fun c3 => bad (fun q => c3 q.2.2)⟩⟩⟩
  have hk : okL x ∧ okL y ∧ okL w := ⟨Classical.not_not.mp c1, Classical.not_not.mp c2, Classical.not_not.mp c3⟩
  by_cases h8 : M.nr < 8
  · have e8 : ¬ nI M.nr = 8 := fun q => absurd ((i_eq (b := 8) (by omega) (by omega)).mp q) (by omega)
    refine go_ok okF1 (C := cdX11_adds) (by rfl) [] 60 (by exact Nat.le_of_ble_eq_true rfl) ?_
    simp (maxSteps := 2000000) only [go, stp, inS, ↓reduceIte, Bool.false_eq_true, Nat.reduceLT, Nat.reduceEqDiff, Nat.reduceAdd, ldI, ldL, ldA, st1, st2, okS, List.getElem?_cons_zero, List.getElem?_cons_succ, List.length_cons, List.length_nil, List.set_cons_zero, List.set_cons_succ, callP, callF, popN, ct, Value.category, cI, List.getD_cons_zero, List.getD_cons_succ, and_self, and_true, true_and, Nat.zero_le, Nat.reduceLeDiff, Nat.add_zero, Nat.zero_add, List.nil_append, List.cons_append, Option.toList_some, Option.toList_none, List.append_nil, hset_ss, true_or, or_true, eq_self, beq_self_eq_true, List.drop_succ_cons, List.drop_zero, swT, swL, hset_ap, not_true_eq_false, not_false_eq_true, true_implies, false_implies, implies_true, Int32.reduceLE, Int32.reduceLT, Int32.reduceAdd, Int32.reduceSub, Int32.reduceOfInt, Int32.reduceToNatClampNeg, i10, i01, Nat.add_left_cancel_iff, Nat.left_eq_add, Nat.add_eq_left, cdX11_adds, F1, m.o, m.a6, r.nr, e8, ix3, nI_1, ix2, i_cl (show 3 * M.nr < 2147483648 by omega), i_cl (show 3 * M.nr + 1 < 2147483648 by omega), i_cl (show 3 * M.nr + 2 < 2147483648 by omega)]
    refine ⟨vp_in_nI (by omega) (by omega), vp_in_nI (by omega) (by omega), vp_in_nI (by omega) (by omega), ?_⟩
    rw [nI_pred]
    refine hq2 hk h8 _ ⟨upd c 5 (nI (M.nr + 1)), _, l, (m.s6 (upd (upd (upd (a 6) (3 * M.nr) x.toInt32) (3 * M.nr + 1) y.toInt32) (3 * M.nr + 2) w.toInt32)).sc (upd c 5 (nI (M.nr + 1))), ⟨r.1.1, rfl, r.1.2.2.1, r.1.2.2.2⟩, fun q hq => ?_, r.2.2⟩ ((sOff.rf.set (by omega) (by omega)).set (by omega) (by omega))
    have hq : q < (M.nr + 1) * 3 := hq
    show upd (upd (upd (a 6) (3 * M.nr) x.toInt32) (3 * M.nr + 1) y.toInt32) (3 * M.nr + 2) w.toInt32 q = upd3 M.f (M.nr * 3) x.toInt32 y.toInt32 w.toInt32 q
    unfold upd3
    rw [Nat.mul_comm M.nr 3]
    by_cases q2 : q = 3 * M.nr + 2
    · subst q2; rw [pk_us, pk_us]
    · rw [pk_un q2, pk_un q2]
      by_cases q1 : q = 3 * M.nr + 1
      · subst q1; rw [pk_us, pk_us]
      · rw [pk_un q1, pk_un q1]
        by_cases q0 : q = 3 * M.nr
        · subst q0; rw [pk_us, pk_us]
        · rw [pk_un q0, pk_un q0]; exact r.tb (by omega)
  · have e8 : nI M.nr = 8 := (i_eq (b := 8) (by omega) (by omega)).mpr (by omega)
    refine go_ok okF1 (C := cdX11_adds) (by rfl) [] 60 (by exact Nat.le_of_ble_eq_true rfl) ?_
    simp (maxSteps := 2000000) only [go, stp, inS, ↓reduceIte, Bool.false_eq_true, Nat.reduceLT, Nat.reduceEqDiff, Nat.reduceAdd, ldI, ldL, ldA, st1, st2, okS, List.getElem?_cons_zero, List.getElem?_cons_succ, List.length_cons, List.length_nil, List.set_cons_zero, List.set_cons_succ, callP, callF, popN, ct, Value.category, cI, List.getD_cons_zero, List.getD_cons_succ, and_self, and_true, true_and, Nat.zero_le, Nat.reduceLeDiff, Nat.add_zero, Nat.zero_add, List.nil_append, List.cons_append, Option.toList_some, Option.toList_none, List.append_nil, hset_ss, true_or, or_true, eq_self, beq_self_eq_true, List.drop_succ_cons, List.drop_zero, swT, swL, hset_ap, not_true_eq_false, not_false_eq_true, true_implies, false_implies, implies_true, Int32.reduceLE, Int32.reduceLT, Int32.reduceAdd, Int32.reduceSub, Int32.reduceOfInt, Int32.reduceToNatClampNeg, i10, i01, Nat.add_left_cancel_iff, Nat.left_eq_add, Nat.add_eq_left, cdX11_adds, F1, m.o, r.nr, e8]
    exact hq1 hk h8
theorem okL_V (v : Int32) : okL v.toInt64 ↔ okV v := okV64 v
set_option maxRecDepth 100000 in
set_option maxHeartbeats 400000 in
theorem D_row {x y w : Int32} (m : MI h M) (ok : MOk M) (hq : ∀ h', MI h' (stRow M x y w).2 → sOff h h' 52 80 → Q (some (.int (stRow M x y w).1)) n h') : Ok 159 [.ref 52, .int x, .int y, .int w] n h Q := by
  have m0 := m
  obtain ⟨c, a, l, m, r⟩ := m
  unfold stRow at hq
  refine ok_of kMX11_row kCX11_row (Nat.le_of_ble_eq_true rfl) (fun z => ?_)
  change A z _ _ 0 0 _ 0 [some (.ref 52), some (.int x), some (.int y), some (.int w)] [] _
  refine go_ok okF1 (C := cdX11_row) (by rfl) [] 20 (by exact Nat.le_of_ble_eq_true rfl) ?_
  simp (maxSteps := 2000000) only [go, stp, inS, ↓reduceIte, Bool.false_eq_true, Nat.reduceLT, Nat.reduceEqDiff, Nat.reduceAdd, ldI, ldL, ldA, st1, st2, okS, List.getElem?_cons_zero, List.getElem?_cons_succ, List.length_cons, List.length_nil, List.set_cons_zero, List.set_cons_succ, callP, callF, popN, ct, Value.category, cI, List.getD_cons_zero, List.getD_cons_succ, and_self, and_true, true_and, Nat.zero_le, Nat.reduceLeDiff, Nat.add_zero, Nat.zero_add, List.nil_append, List.cons_append, Option.toList_some, Option.toList_none, List.append_nil, hset_ss, true_or, or_true, eq_self, beq_self_eq_true, List.drop_succ_cons, List.drop_zero, swT, swL, hset_ap, not_true_eq_false, not_false_eq_true, true_implies, false_implies, implies_true, Int32.reduceLE, Int32.reduceLT, Int32.reduceAdd, Int32.reduceSub, Int32.reduceOfInt, Int32.reduceToNatClampNeg, i10, i01, Nat.add_left_cancel_iff, Nat.left_eq_add, Nat.add_eq_left, cdX11_row, F1, m.o]
  refine D_adds m0 ok (fun e => ?_) (fun e e8 => ?_) (fun e e8 h' m' hO => ?_)
  · refine go_ok okF1 (C := cdX11_row) (by rfl) [] 20 (by exact Nat.le_of_ble_eq_true rfl) ?_
    simp (maxSteps := 2000000) only [go, stp, inS, ↓reduceIte, Bool.false_eq_true, Nat.reduceLT, Nat.reduceEqDiff, Nat.reduceAdd, ldI, ldL, ldA, st1, st2, okS, List.getElem?_cons_zero, List.getElem?_cons_succ, List.length_cons, List.length_nil, List.set_cons_zero, List.set_cons_succ, callP, callF, popN, ct, Value.category, cI, List.getD_cons_zero, List.getD_cons_succ, and_self, and_true, true_and, Nat.zero_le, Nat.reduceLeDiff, Nat.add_zero, Nat.zero_add, List.nil_append, List.cons_append, Option.toList_some, Option.toList_none, List.append_nil, hset_ss, true_or, or_true, eq_self, beq_self_eq_true, List.drop_succ_cons, List.drop_zero, swT, swL, hset_ap, not_true_eq_false, not_false_eq_true, true_implies, false_implies, implies_true, Int32.reduceLE, Int32.reduceLT, Int32.reduceAdd, Int32.reduceSub, Int32.reduceOfInt, Int32.reduceToNatClampNeg, i10, i01, Nat.add_left_cancel_iff, Nat.left_eq_add, Nat.add_eq_left, cdX11_row, F1]
    rw [okL_V, okL_V, okL_V] at e
    rw [if_neg e] at hq; exact hq h m0 sOff.rf
  · refine go_ok okF1 (C := cdX11_row) (by rfl) [] 20 (by exact Nat.le_of_ble_eq_true rfl) ?_
    simp (maxSteps := 2000000) only [go, stp, inS, ↓reduceIte, Bool.false_eq_true, Nat.reduceLT, Nat.reduceEqDiff, Nat.reduceAdd, ldI, ldL, ldA, st1, st2, okS, List.getElem?_cons_zero, List.getElem?_cons_succ, List.length_cons, List.length_nil, List.set_cons_zero, List.set_cons_succ, callP, callF, popN, ct, Value.category, cI, List.getD_cons_zero, List.getD_cons_succ, and_self, and_true, true_and, Nat.zero_le, Nat.reduceLeDiff, Nat.add_zero, Nat.zero_add, List.nil_append, List.cons_append, Option.toList_some, Option.toList_none, List.append_nil, hset_ss, true_or, or_true, eq_self, beq_self_eq_true, List.drop_succ_cons, List.drop_zero, swT, swL, hset_ap, not_true_eq_false, not_false_eq_true, true_implies, false_implies, implies_true, Int32.reduceLE, Int32.reduceLT, Int32.reduceAdd, Int32.reduceSub, Int32.reduceOfInt, Int32.reduceToNatClampNeg, i10, i01, Nat.add_left_cancel_iff, Nat.left_eq_add, Nat.add_eq_left, cdX11_row, F1]
    rw [okL_V, okL_V, okL_V] at e
    rw [if_pos e, if_neg e8] at hq; exact hq h m0 sOff.rf
  · refine go_ok okF1 (C := cdX11_row) (by rfl) [] 20 (by exact Nat.le_of_ble_eq_true rfl) ?_
    simp (maxSteps := 2000000) only [go, stp, inS, ↓reduceIte, Bool.false_eq_true, Nat.reduceLT, Nat.reduceEqDiff, Nat.reduceAdd, ldI, ldL, ldA, st1, st2, okS, List.getElem?_cons_zero, List.getElem?_cons_succ, List.length_cons, List.length_nil, List.set_cons_zero, List.set_cons_succ, callP, callF, popN, ct, Value.category, cI, List.getD_cons_zero, List.getD_cons_succ, and_self, and_true, true_and, Nat.zero_le, Nat.reduceLeDiff, Nat.add_zero, Nat.zero_add, List.nil_append, List.cons_append, Option.toList_some, Option.toList_none, List.append_nil, hset_ss, true_or, or_true, eq_self, beq_self_eq_true, List.drop_succ_cons, List.drop_zero, swT, swL, hset_ap, not_true_eq_false, not_false_eq_true, true_implies, false_implies, implies_true, Int32.reduceLE, Int32.reduceLT, Int32.reduceAdd, Int32.reduceSub, Int32.reduceOfInt, Int32.reduceToNatClampNeg, i10, i01, Nat.add_left_cancel_iff, Nat.left_eq_add, Nat.add_eq_left, cdX11_row, F1]
    rw [okL_V, okL_V, okL_V] at e
    rw [if_pos e, if_pos e8] at hq
    rw [Int32.toInt32_toInt64, Int32.toInt32_toInt64, Int32.toInt32_toInt64] at m'
    exact hq h' m' hO
set_option maxRecDepth 100000 in
set_option maxHeartbeats 400000 in
theorem D_empty (m : MI h M) (hq : ∀ h', MI h' (mkM M.f 0 M.B M.s M.len M.P M.ru M.fa M.fd M.I M.fm M.sz) → sOff h h' 52 80 → Q (some (.int (nI M.nr))) n h') : Ok 163 [.ref 52] n h Q := by
  obtain ⟨c, a, l, m, r⟩ := m
  refine ok_of kMX11_empty kCX11_empty (Nat.le_of_ble_eq_true rfl) (fun z => ?_)
  change A z _ _ 0 0 _ 0 [some (.ref 52), none] [] _
  refine go_ok okF1 (C := cdX11_empty) (by rfl) [] 20 (by exact Nat.le_of_ble_eq_true rfl) ?_
  simp (maxSteps := 2000000) only [go, stp, inS, ↓reduceIte, Bool.false_eq_true, Nat.reduceLT, Nat.reduceEqDiff, Nat.reduceAdd, ldI, ldL, ldA, st1, st2, okS, List.getElem?_cons_zero, List.getElem?_cons_succ, List.length_cons, List.length_nil, List.set_cons_zero, List.set_cons_succ, callP, callF, popN, ct, Value.category, cI, List.getD_cons_zero, List.getD_cons_succ, and_self, and_true, true_and, Nat.zero_le, Nat.reduceLeDiff, Nat.add_zero, Nat.zero_add, List.nil_append, List.cons_append, Option.toList_some, Option.toList_none, List.append_nil, hset_ss, true_or, or_true, eq_self, beq_self_eq_true, List.drop_succ_cons, List.drop_zero, swT, swL, hset_ap, not_true_eq_false, not_false_eq_true, true_implies, false_implies, implies_true, Int32.reduceLE, Int32.reduceLT, Int32.reduceAdd, Int32.reduceSub, Int32.reduceOfInt, Int32.reduceToNatClampNeg, i10, i01, Nat.add_left_cancel_iff, Nat.left_eq_add, Nat.add_eq_left, cdX11_empty, F1, m.o, r.nr]
  exact hq _ ⟨upd c 5 0, a, l, m.sc (upd c 5 0), ⟨r.1.1, rfl, r.1.2.2.1, r.1.2.2.2⟩, fun q hq => absurd (show q < 0 * 3 from hq) (by omega), r.2.2⟩ (sOff.rf.set (by omega) (by omega))
theorem cS_no {f : Nat → Int32} {nr : Nat} {x y : Int32} (hc : ¬ ((0 ≤ x ∧ x < nI nr) ∧ 0 ≤ y ∧ y < 3)) : cS f nr x y = -1000 := by
  unfold cS; rw [if_neg (fun q => hc ⟨⟨q.1, q.2.1⟩, q.2.2⟩)]
set_option maxRecDepth 100000 in
set_option maxHeartbeats 400000 in
theorem D_isRow {x : Int32} (m : MI h M) (ok : MOk M) (hq : Q (some (.int (if 0 ≤ x ∧ x < nI M.nr then 1 else 0))) n h) : Ok 157 [.ref 52, .int x] n h Q := by
  have hnr := ok.nr
  obtain ⟨c, a, l, m, r⟩ := m
  refine ok_of kMX11_isRow kCX11_isRow (Nat.le_of_ble_eq_true rfl) (fun z => ?_)
  change A z _ _ 0 0 _ 0 [some (.ref 52), some (.int x)] [] _
  refine go_ok okF1 (C := cdX11_isRow) (by rfl) [] 20 (by exact Nat.le_of_ble_eq_true rfl) ?_
  simp (maxSteps := 2000000) only [go, stp, inS, ↓reduceIte, Bool.false_eq_true, Nat.reduceLT, Nat.reduceEqDiff, Nat.reduceAdd, ldI, ldL, ldA, st1, st2, okS, List.getElem?_cons_zero, List.getElem?_cons_succ, List.length_cons, List.length_nil, List.set_cons_zero, List.set_cons_succ, callP, callF, popN, ct, Value.category, cI, List.getD_cons_zero, List.getD_cons_succ, and_self, and_true, true_and, Nat.zero_le, Nat.reduceLeDiff, Nat.add_zero, Nat.zero_add, List.nil_append, List.cons_append, Option.toList_some, Option.toList_none, List.append_nil, hset_ss, true_or, or_true, eq_self, beq_self_eq_true, List.drop_succ_cons, List.drop_zero, swT, swL, hset_ap, not_true_eq_false, not_false_eq_true, true_implies, false_implies, implies_true, Int32.reduceLE, Int32.reduceLT, Int32.reduceAdd, Int32.reduceSub, Int32.reduceOfInt, Int32.reduceToNatClampNeg, i10, i01, Nat.add_left_cancel_iff, Nat.left_eq_add, Nat.add_eq_left, cdX11_isRow, F1, m.o, r.nr, in0s (i := x) (show M.nr < 1000 by omega), ib01]
  exact hq
set_option maxRecDepth 100000 in
set_option maxHeartbeats 400000 in
theorem D_at {x y : Int32} (m : MI h M) (ok : MOk M) (hq : Q (some (.int (cS M.f M.nr x y))) n h) : Ok 161 [.ref 52, .int x, .int y] n h Q := by
  have m0 := m
  have hnr := ok.nr
  obtain ⟨c, a, l, m, r⟩ := m
  refine ok_of kMX11_at kCX11_at (Nat.le_of_ble_eq_true rfl) (fun z => ?_)
  change A z _ _ 0 0 _ 0 [some (.ref 52), some (.int x), some (.int y)] [] _
  refine go_ok okF1 (C := cdX11_at) (by rfl) [] 20 (by exact Nat.le_of_ble_eq_true rfl) ?_
  simp (maxSteps := 2000000) only [go, stp, inS, ↓reduceIte, Bool.false_eq_true, Nat.reduceLT, Nat.reduceEqDiff, Nat.reduceAdd, ldI, ldL, ldA, st1, st2, okS, List.getElem?_cons_zero, List.getElem?_cons_succ, List.length_cons, List.length_nil, List.set_cons_zero, List.set_cons_succ, callP, callF, popN, ct, Value.category, cI, List.getD_cons_zero, List.getD_cons_succ, and_self, and_true, true_and, Nat.zero_le, Nat.reduceLeDiff, Nat.add_zero, Nat.zero_add, List.nil_append, List.cons_append, Option.toList_some, Option.toList_none, List.append_nil, hset_ss, true_or, or_true, eq_self, beq_self_eq_true, List.drop_succ_cons, List.drop_zero, swT, swL, hset_ap, not_true_eq_false, not_false_eq_true, true_implies, false_implies, implies_true, Int32.reduceLE, Int32.reduceLT, Int32.reduceAdd, Int32.reduceSub, Int32.reduceOfInt, Int32.reduceToNatClampNeg, i10, i01, Nat.add_left_cancel_iff, Nat.left_eq_add, Nat.add_eq_left, cdX11_at, F1, m.o]
  refine D_isRow m0 ok ?_
  by_cases hx : 0 ≤ x ∧ x < nI M.nr
  · rw [if_pos hx]
    by_cases hy : 0 ≤ y ∧ y < 3
    · obtain ⟨i, hi, rfl⟩ := i_of (by omega) (i_nlt.mpr hx.1) hx.2
      obtain ⟨j, hj, rfl⟩ := i_of (n := 3) (by omega) (i_nlt.mpr hy.1) hy.2
      refine go_ok okF1 (C := cdX11_at) (by rfl) [] 20 (by exact Nat.le_of_ble_eq_true rfl) ?_
      simp (maxSteps := 2000000) only [go, stp, inS, ↓reduceIte, Bool.false_eq_true, Nat.reduceLT, Nat.reduceEqDiff, Nat.reduceAdd, ldI, ldL, ldA, st1, st2, okS, List.getElem?_cons_zero, List.getElem?_cons_succ, List.length_cons, List.length_nil, List.set_cons_zero, List.set_cons_succ, callP, callF, popN, ct, Value.category, cI, List.getD_cons_zero, List.getD_cons_succ, and_self, and_true, true_and, Nat.zero_le, Nat.reduceLeDiff, Nat.add_zero, Nat.zero_add, List.nil_append, List.cons_append, Option.toList_some, Option.toList_none, List.append_nil, hset_ss, true_or, or_true, eq_self, beq_self_eq_true, List.drop_succ_cons, List.drop_zero, swT, swL, hset_ap, not_true_eq_false, not_false_eq_true, true_implies, false_implies, implies_true, Int32.reduceLE, Int32.reduceLT, Int32.reduceAdd, Int32.reduceSub, Int32.reduceOfInt, Int32.reduceToNatClampNeg, i10, i01, Nat.add_left_cancel_iff, Nat.left_eq_add, Nat.add_eq_left, cdX11_at, F1, in02, eq_true hy, m.o, m.a6, ix3, nI_add, i_cl (show 3 * i + j < 2147483648 by omega), r.tb (show 3 * i + j < M.nr * 3 by omega)]
      refine ⟨vp_in_nI (by omega) (by omega), ?_⟩
      rw [cS_in (by omega) hi hj, Nat.mul_comm] at hq
      exact hq
    · refine go_ok okF1 (C := cdX11_at) (by rfl) [] 20 (by exact Nat.le_of_ble_eq_true rfl) ?_
      simp (maxSteps := 2000000) only [go, stp, inS, ↓reduceIte, Bool.false_eq_true, Nat.reduceLT, Nat.reduceEqDiff, Nat.reduceAdd, ldI, ldL, ldA, st1, st2, okS, List.getElem?_cons_zero, List.getElem?_cons_succ, List.length_cons, List.length_nil, List.set_cons_zero, List.set_cons_succ, callP, callF, popN, ct, Value.category, cI, List.getD_cons_zero, List.getD_cons_succ, and_self, and_true, true_and, Nat.zero_le, Nat.reduceLeDiff, Nat.add_zero, Nat.zero_add, List.nil_append, List.cons_append, Option.toList_some, Option.toList_none, List.append_nil, hset_ss, true_or, or_true, eq_self, beq_self_eq_true, List.drop_succ_cons, List.drop_zero, swT, swL, hset_ap, not_true_eq_false, not_false_eq_true, true_implies, false_implies, implies_true, Int32.reduceLE, Int32.reduceLT, Int32.reduceAdd, Int32.reduceSub, Int32.reduceOfInt, Int32.reduceToNatClampNeg, i10, i01, Nat.add_left_cancel_iff, Nat.left_eq_add, Nat.add_eq_left, cdX11_at, F1, in02, eq_false hy]
      rw [cS_no (fun q => hy q.2)] at hq
      exact hq
  · rw [if_neg hx]
    refine go_ok okF1 (C := cdX11_at) (by rfl) [] 20 (by exact Nat.le_of_ble_eq_true rfl) ?_
    simp (maxSteps := 2000000) only [go, stp, inS, ↓reduceIte, Bool.false_eq_true, Nat.reduceLT, Nat.reduceEqDiff, Nat.reduceAdd, ldI, ldL, ldA, st1, st2, okS, List.getElem?_cons_zero, List.getElem?_cons_succ, List.length_cons, List.length_nil, List.set_cons_zero, List.set_cons_succ, callP, callF, popN, ct, Value.category, cI, List.getD_cons_zero, List.getD_cons_succ, and_self, and_true, true_and, Nat.zero_le, Nat.reduceLeDiff, Nat.add_zero, Nat.zero_add, List.nil_append, List.cons_append, Option.toList_some, Option.toList_none, List.append_nil, hset_ss, true_or, or_true, eq_self, beq_self_eq_true, List.drop_succ_cons, List.drop_zero, swT, swL, hset_ap, not_true_eq_false, not_false_eq_true, true_implies, false_implies, implies_true, Int32.reduceLE, Int32.reduceLT, Int32.reduceAdd, Int32.reduceSub, Int32.reduceOfInt, Int32.reduceToNatClampNeg, i10, i01, Nat.add_left_cancel_iff, Nat.left_eq_add, Nat.add_eq_left, cdX11_at, F1]
    rw [cS_no (fun q => hx q.1)] at hq
    exact hq
set_option maxRecDepth 100000 in
set_option maxHeartbeats 400000 in
theorem D_put {x y v : Int32} (m : MI h M) (ok : MOk M) (hq : ∀ h', MI h' (stPut M x y v).2 → sOff h h' 52 80 → Q (some (.int (stPut M x y v).1)) n h') : Ok 162 [.ref 52, .int x, .int y, .int v] n h Q := by
  have m0 := m
  have hnr := ok.nr
  obtain ⟨c, a, l, m, r⟩ := m
  unfold stPut at hq
  have bad : ∀ (e : ¬ ((0 ≤ x ∧ x < nI M.nr) ∧ 0 ≤ y ∧ y < 3)), Q (some (.int (-1000))) n h := fun e => by
    by_cases hv : okV v
    · rw [if_pos hv, if_neg (fun q => e ⟨⟨q.1, q.2.1⟩, q.2.2⟩), cS_no e] at hq
      exact hq h m0 sOff.rf
    · rw [if_neg hv] at hq
      exact hq h m0 sOff.rf
  refine ok_of kMX11_put kCX11_put (Nat.le_of_ble_eq_true rfl) (fun z => ?_)
  change A z _ _ 0 0 _ 0 [some (.ref 52), some (.int x), some (.int y), some (.int v), none] [] _
  refine go_ok okF1 (C := cdX11_put) (by rfl) [] 20 (by exact Nat.le_of_ble_eq_true rfl) ?_
  simp (maxSteps := 2000000) only [go, stp, inS, ↓reduceIte, Bool.false_eq_true, Nat.reduceLT, Nat.reduceEqDiff, Nat.reduceAdd, ldI, ldL, ldA, st1, st2, okS, List.getElem?_cons_zero, List.getElem?_cons_succ, List.length_cons, List.length_nil, List.set_cons_zero, List.set_cons_succ, callP, callF, popN, ct, Value.category, cI, List.getD_cons_zero, List.getD_cons_succ, and_self, and_true, true_and, Nat.zero_le, Nat.reduceLeDiff, Nat.add_zero, Nat.zero_add, List.nil_append, List.cons_append, Option.toList_some, Option.toList_none, List.append_nil, hset_ss, true_or, or_true, eq_self, beq_self_eq_true, List.drop_succ_cons, List.drop_zero, swT, swL, hset_ap, not_true_eq_false, not_false_eq_true, true_implies, false_implies, implies_true, Int32.reduceLE, Int32.reduceLT, Int32.reduceAdd, Int32.reduceSub, Int32.reduceOfInt, Int32.reduceToNatClampNeg, i10, i01, Nat.add_left_cancel_iff, Nat.left_eq_add, Nat.add_eq_left, cdX11_put, F1, m.o]
  refine D_isRow m0 ok ?_
  by_cases hx : 0 ≤ x ∧ x < nI M.nr
  · rw [if_pos hx]
    by_cases hy : 0 ≤ y ∧ y < 3
    · by_cases hv : okV v
      · rw [if_pos hv, if_pos ⟨hx.1, hx.2, hy⟩] at hq
        obtain ⟨i, hi, rfl⟩ := i_of (by omega) (i_nlt.mpr hx.1) hx.2
        obtain ⟨j, hj, rfl⟩ := i_of (n := 3) (by omega) (i_nlt.mpr hy.1) hy.2
        rw [i_cl (show i < 2147483648 by omega), i_cl (show j < 2147483648 by omega), cS_in (by omega) hi hj, Nat.mul_comm] at hq
        refine go_ok okF1 (C := cdX11_put) (by rfl) [] 60 (by exact Nat.le_of_ble_eq_true rfl) ?_
        simp (maxSteps := 2000000) only [go, stp, inS, ↓reduceIte, Bool.false_eq_true, Nat.reduceLT, Nat.reduceEqDiff, Nat.reduceAdd, ldI, ldL, ldA, st1, st2, okS, List.getElem?_cons_zero, List.getElem?_cons_succ, List.length_cons, List.length_nil, List.set_cons_zero, List.set_cons_succ, callP, callF, popN, ct, Value.category, cI, List.getD_cons_zero, List.getD_cons_succ, and_self, and_true, true_and, Nat.zero_le, Nat.reduceLeDiff, Nat.add_zero, Nat.zero_add, List.nil_append, List.cons_append, Option.toList_some, Option.toList_none, List.append_nil, hset_ss, true_or, or_true, eq_self, beq_self_eq_true, List.drop_succ_cons, List.drop_zero, swT, swL, hset_ap, not_true_eq_false, not_false_eq_true, true_implies, false_implies, implies_true, Int32.reduceLE, Int32.reduceLT, Int32.reduceAdd, Int32.reduceSub, Int32.reduceOfInt, Int32.reduceToNatClampNeg, i10, i01, Nat.add_left_cancel_iff, Nat.left_eq_add, Nat.add_eq_left, cdX11_put, F1, in02, eq_true hy, okV64, eq_true hv, m.o, m.a6, ix3, nI_add, i_cl (show 3 * i + j < 2147483648 by omega), r.tb (show 3 * i + j < M.nr * 3 by omega)]
        refine ⟨vp_in_nI (by omega) (by omega), vp_in_nI (by omega) (by omega), ?_⟩
        refine hq _ ⟨c, _, l, m.s6 (upd (a 6) (3 * i + j) v), r.1, fun q hq => ?_, r.2.2⟩ (sOff.rf.set (by omega) (by omega))
        show upd (a 6) (3 * i + j) v q = upd M.f (3 * i + j) v q
        by_cases e : q = 3 * i + j
        · subst e; rw [pk_us, pk_us]
        · rw [pk_un e, pk_un e]; exact r.tb hq
      · refine go_ok okF1 (C := cdX11_put) (by rfl) [] 20 (by exact Nat.le_of_ble_eq_true rfl) ?_
        simp (maxSteps := 2000000) only [go, stp, inS, ↓reduceIte, Bool.false_eq_true, Nat.reduceLT, Nat.reduceEqDiff, Nat.reduceAdd, ldI, ldL, ldA, st1, st2, okS, List.getElem?_cons_zero, List.getElem?_cons_succ, List.length_cons, List.length_nil, List.set_cons_zero, List.set_cons_succ, callP, callF, popN, ct, Value.category, cI, List.getD_cons_zero, List.getD_cons_succ, and_self, and_true, true_and, Nat.zero_le, Nat.reduceLeDiff, Nat.add_zero, Nat.zero_add, List.nil_append, List.cons_append, Option.toList_some, Option.toList_none, List.append_nil, hset_ss, true_or, or_true, eq_self, beq_self_eq_true, List.drop_succ_cons, List.drop_zero, swT, swL, hset_ap, not_true_eq_false, not_false_eq_true, true_implies, false_implies, implies_true, Int32.reduceLE, Int32.reduceLT, Int32.reduceAdd, Int32.reduceSub, Int32.reduceOfInt, Int32.reduceToNatClampNeg, i10, i01, Nat.add_left_cancel_iff, Nat.left_eq_add, Nat.add_eq_left, cdX11_put, F1, in02, eq_true hy, okV64, eq_false hv]
        rw [if_neg hv] at hq
        exact hq h m0 sOff.rf
    · refine go_ok okF1 (C := cdX11_put) (by rfl) [] 20 (by exact Nat.le_of_ble_eq_true rfl) ?_
      simp (maxSteps := 2000000) only [go, stp, inS, ↓reduceIte, Bool.false_eq_true, Nat.reduceLT, Nat.reduceEqDiff, Nat.reduceAdd, ldI, ldL, ldA, st1, st2, okS, List.getElem?_cons_zero, List.getElem?_cons_succ, List.length_cons, List.length_nil, List.set_cons_zero, List.set_cons_succ, callP, callF, popN, ct, Value.category, cI, List.getD_cons_zero, List.getD_cons_succ, and_self, and_true, true_and, Nat.zero_le, Nat.reduceLeDiff, Nat.add_zero, Nat.zero_add, List.nil_append, List.cons_append, Option.toList_some, Option.toList_none, List.append_nil, hset_ss, true_or, or_true, eq_self, beq_self_eq_true, List.drop_succ_cons, List.drop_zero, swT, swL, hset_ap, not_true_eq_false, not_false_eq_true, true_implies, false_implies, implies_true, Int32.reduceLE, Int32.reduceLT, Int32.reduceAdd, Int32.reduceSub, Int32.reduceOfInt, Int32.reduceToNatClampNeg, i10, i01, Nat.add_left_cancel_iff, Nat.left_eq_add, Nat.add_eq_left, cdX11_put, F1, in02, eq_false hy]
      exact bad (fun q => hy q.2)
  · rw [if_neg hx]
    refine go_ok okF1 (C := cdX11_put) (by rfl) [] 20 (by exact Nat.le_of_ble_eq_true rfl) ?_
    simp (maxSteps := 2000000) only [go, stp, inS, ↓reduceIte, Bool.false_eq_true, Nat.reduceLT, Nat.reduceEqDiff, Nat.reduceAdd, ldI, ldL, ldA, st1, st2, okS, List.getElem?_cons_zero, List.getElem?_cons_succ, List.length_cons, List.length_nil, List.set_cons_zero, List.set_cons_succ, callP, callF, popN, ct, Value.category, cI, List.getD_cons_zero, List.getD_cons_succ, and_self, and_true, true_and, Nat.zero_le, Nat.reduceLeDiff, Nat.add_zero, Nat.zero_add, List.nil_append, List.cons_append, Option.toList_some, Option.toList_none, List.append_nil, hset_ss, true_or, or_true, eq_self, beq_self_eq_true, List.drop_succ_cons, List.drop_zero, swT, swL, hset_ap, not_true_eq_false, not_false_eq_true, true_implies, false_implies, implies_true, Int32.reduceLE, Int32.reduceLT, Int32.reduceAdd, Int32.reduceSub, Int32.reduceOfInt, Int32.reduceToNatClampNeg, i10, i01, Nat.add_left_cancel_iff, Nat.left_eq_add, Nat.add_eq_left, cdX11_put, F1]
    exact bad (fun q => hx q.1)
theorem mR.txt (r : mR M c a l) {t k : Nat} {B : Nat → Int32} {s : pT} {g g2 : Nat → Int32} (h1 : ∀ t', t' < 2 → g2 t' = nI (fset M.len t k t')) (h2 : ∀ t' i, t' < 2 → i < fset M.len t k t' → g (40 * t' + i) = fset M.B t B t' i) : mR (txM M t B s k) c (fset (fset a 9 g) 10 g2) l := ⟨r.1, r.2.1, h1, h2, r.2.2.2.2⟩
set_option maxRecDepth 100000 in
set_option maxHeartbeats 400000 in
theorem D_type {x b : Int32} (m : MI h M) (ok : MOk M) (hq : ∀ h', MI h' (stType M x b).2 → sOff h h' 52 80 → Q (some (.int (stType M x b).1)) n h') : Ok 167 [.ref 52, .int x, .int b] n h Q := by
  have m0 := m
  obtain ⟨c, a, l, m, r⟩ := m
  unfold stType at hq
  refine ok_of kMX11_type kCX11_type (Nat.le_of_ble_eq_true rfl) (fun z => ?_)
  change A z _ _ 0 0 _ 0 [some (.ref 52), some (.int x), some (.int b)] [] _
  by_cases hx : 0 ≤ x ∧ x < 2
  · by_cases hb : 0 ≤ b ∧ b ≤ 255
    · rw [if_pos ⟨hx, hb⟩] at hq
      obtain ⟨t, ht, rfl⟩ := i_of (n := 2) (by omega) (i_nlt.mpr hx.1) hx.2
      rw [i_cl (show t < 2147483648 by omega)] at hq
      have hl := ok.ln t ht
      by_cases h40 : M.len t < 40
      · have e40 : ¬ nI (M.len t) = 40 := fun q => absurd ((i_eq (b := 40) (by omega) (by omega)).mp q) (by omega)
        rw [if_pos h40] at hq
        refine go_ok okF1 (C := cdX11_type) (by rfl) [] 40 (by exact Nat.le_of_ble_eq_true rfl) ?_
        simp (maxSteps := 2000000) only [go, stp, inS, ↓reduceIte, Bool.false_eq_true, Nat.reduceLT, Nat.reduceEqDiff, Nat.reduceAdd, ldI, ldL, ldA, st1, st2, okS, List.getElem?_cons_zero, List.getElem?_cons_succ, List.length_cons, List.length_nil, List.set_cons_zero, List.set_cons_succ, callP, callF, popN, ct, Value.category, cI, List.getD_cons_zero, List.getD_cons_succ, and_self, and_true, true_and, Nat.zero_le, Nat.reduceLeDiff, Nat.add_zero, Nat.zero_add, List.nil_append, List.cons_append, Option.toList_some, Option.toList_none, List.append_nil, hset_ss, true_or, or_true, eq_self, beq_self_eq_true, List.drop_succ_cons, List.drop_zero, swT, swL, hset_ap, not_true_eq_false, not_false_eq_true, true_implies, false_implies, implies_true, Int32.reduceLE, Int32.reduceLT, Int32.reduceAdd, Int32.reduceSub, Int32.reduceOfInt, Int32.reduceToNatClampNeg, i10, i01, Nat.add_left_cancel_iff, Nat.left_eq_add, Nat.add_eq_left, cdX11_type, F1, eq_true hx, in0b, eq_true hb, m.o, m.a9, m.a10, i_cl (show t < 2147483648 by omega), r.ln ht, e40, ix40, i_cl (show 40 * t + M.len t < 2147483648 by omega), nI_1, pk_us]
        repeat refine ⟨vp_in_nI (by omega) (by omega), ?_⟩
        refine hq _ ⟨c, _, l, (m.s9 (upd (a 9) (40 * t + M.len t) b)).s10 (upd (a 10) t (nI (M.len t + 1))), r.txt (fun t' ht' => ?_) (fun t' i ht' hi => ?_)⟩ ((sOff.rf.set (by omega) (by omega)).set (by omega) (by omega))
        · by_cases e : t' = t
          · subst e; rw [pk_us, fset_s]
          · rw [pk_un e, fset_n _ _ e]; exact r.ln ht'
        · by_cases e : t' = t
          · subst e
            rw [fset_s] at hi ⊢
            by_cases e2 : i = M.len t'
            · subst e2; rw [pk_us, pk_us]
            · rw [pk_un (by omega), pk_un e2]; exact r.tx ht' (by omega)
          · rw [fset_n _ _ e] at hi ⊢
            have := ok.ln t' ht'
            rw [pk_un (by omega)]; exact r.tx ht' hi
      · have e40 : nI (M.len t) = 40 := (i_eq (b := 40) (by omega) (by omega)).mpr (by omega)
        rw [if_neg h40] at hq
        refine go_ok okF1 (C := cdX11_type) (by rfl) [] 40 (by exact Nat.le_of_ble_eq_true rfl) ?_
        simp (maxSteps := 2000000) only [go, stp, inS, ↓reduceIte, Bool.false_eq_true, Nat.reduceLT, Nat.reduceEqDiff, Nat.reduceAdd, ldI, ldL, ldA, st1, st2, okS, List.getElem?_cons_zero, List.getElem?_cons_succ, List.length_cons, List.length_nil, List.set_cons_zero, List.set_cons_succ, callP, callF, popN, ct, Value.category, cI, List.getD_cons_zero, List.getD_cons_succ, and_self, and_true, true_and, Nat.zero_le, Nat.reduceLeDiff, Nat.add_zero, Nat.zero_add, List.nil_append, List.cons_append, Option.toList_some, Option.toList_none, List.append_nil, hset_ss, true_or, or_true, eq_self, beq_self_eq_true, List.drop_succ_cons, List.drop_zero, swT, swL, hset_ap, not_true_eq_false, not_false_eq_true, true_implies, false_implies, implies_true, Int32.reduceLE, Int32.reduceLT, Int32.reduceAdd, Int32.reduceSub, Int32.reduceOfInt, Int32.reduceToNatClampNeg, i10, i01, Nat.add_left_cancel_iff, Nat.left_eq_add, Nat.add_eq_left, cdX11_type, F1, eq_true hx, in0b, eq_true hb, m.o, m.a10, i_cl (show t < 2147483648 by omega), r.ln ht, e40]
        exact ⟨vp_in_nI (by omega) (by omega), hq h m0 sOff.rf⟩
    · rw [if_neg (fun q => hb q.2)] at hq
      refine go_ok okF1 (C := cdX11_type) (by rfl) [] 40 (by exact Nat.le_of_ble_eq_true rfl) ?_
      simp (maxSteps := 2000000) only [go, stp, inS, ↓reduceIte, Bool.false_eq_true, Nat.reduceLT, Nat.reduceEqDiff, Nat.reduceAdd, ldI, ldL, ldA, st1, st2, okS, List.getElem?_cons_zero, List.getElem?_cons_succ, List.length_cons, List.length_nil, List.set_cons_zero, List.set_cons_succ, callP, callF, popN, ct, Value.category, cI, List.getD_cons_zero, List.getD_cons_succ, and_self, and_true, true_and, Nat.zero_le, Nat.reduceLeDiff, Nat.add_zero, Nat.zero_add, List.nil_append, List.cons_append, Option.toList_some, Option.toList_none, List.append_nil, hset_ss, true_or, or_true, eq_self, beq_self_eq_true, List.drop_succ_cons, List.drop_zero, swT, swL, hset_ap, not_true_eq_false, not_false_eq_true, true_implies, false_implies, implies_true, Int32.reduceLE, Int32.reduceLT, Int32.reduceAdd, Int32.reduceSub, Int32.reduceOfInt, Int32.reduceToNatClampNeg, i10, i01, Nat.add_left_cancel_iff, Nat.left_eq_add, Nat.add_eq_left, cdX11_type, F1, eq_true hx, in0b, eq_false hb]
      exact hq h m0 sOff.rf
  · rw [if_neg (fun q => hx q.1)] at hq
    refine go_ok okF1 (C := cdX11_type) (by rfl) [] 40 (by exact Nat.le_of_ble_eq_true rfl) ?_
    simp (maxSteps := 2000000) only [go, stp, inS, ↓reduceIte, Bool.false_eq_true, Nat.reduceLT, Nat.reduceEqDiff, Nat.reduceAdd, ldI, ldL, ldA, st1, st2, okS, List.getElem?_cons_zero, List.getElem?_cons_succ, List.length_cons, List.length_nil, List.set_cons_zero, List.set_cons_succ, callP, callF, popN, ct, Value.category, cI, List.getD_cons_zero, List.getD_cons_succ, and_self, and_true, true_and, Nat.zero_le, Nat.reduceLeDiff, Nat.add_zero, Nat.zero_add, List.nil_append, List.cons_append, Option.toList_some, Option.toList_none, List.append_nil, hset_ss, true_or, or_true, eq_self, beq_self_eq_true, List.drop_succ_cons, List.drop_zero, swT, swL, hset_ap, not_true_eq_false, not_false_eq_true, true_implies, false_implies, implies_true, Int32.reduceLE, Int32.reduceLT, Int32.reduceAdd, Int32.reduceSub, Int32.reduceOfInt, Int32.reduceToNatClampNeg, i10, i01, Nat.add_left_cancel_iff, Nat.left_eq_add, Nat.add_eq_left, cdX11_type, F1, eq_false hx]
    exact hq h m0 sOff.rf
set_option maxRecDepth 100000 in
set_option maxHeartbeats 400000 in
theorem D_wipe {x : Int32} (m : MI h M) (ok : MOk M) (hq : ∀ h', MI h' (stWipe M x).2 → sOff h h' 52 80 → Q (some (.int (stWipe M x).1)) n h') : Ok 168 [.ref 52, .int x] n h Q := by
  have m0 := m
  obtain ⟨c, a, l, m, r⟩ := m
  unfold stWipe at hq
  refine ok_of kMX11_wipe kCX11_wipe (Nat.le_of_ble_eq_true rfl) (fun z => ?_)
  change A z _ _ 0 0 _ 0 [some (.ref 52), some (.int x), none] [] _
  by_cases hx : 0 ≤ x ∧ x < 2
  · rw [if_pos hx] at hq
    obtain ⟨t, ht, rfl⟩ := i_of (n := 2) (by omega) (i_nlt.mpr hx.1) hx.2
    rw [i_cl (show t < 2147483648 by omega)] at hq
    refine go_ok okF1 (C := cdX11_wipe) (by rfl) [] 40 (by exact Nat.le_of_ble_eq_true rfl) ?_
    simp (maxSteps := 2000000) only [go, stp, inS, ↓reduceIte, Bool.false_eq_true, Nat.reduceLT, Nat.reduceEqDiff, Nat.reduceAdd, ldI, ldL, ldA, st1, st2, okS, List.getElem?_cons_zero, List.getElem?_cons_succ, List.length_cons, List.length_nil, List.set_cons_zero, List.set_cons_succ, callP, callF, popN, ct, Value.category, cI, List.getD_cons_zero, List.getD_cons_succ, and_self, and_true, true_and, Nat.zero_le, Nat.reduceLeDiff, Nat.add_zero, Nat.zero_add, List.nil_append, List.cons_append, Option.toList_some, Option.toList_none, List.append_nil, hset_ss, true_or, or_true, eq_self, beq_self_eq_true, List.drop_succ_cons, List.drop_zero, swT, swL, hset_ap, not_true_eq_false, not_false_eq_true, true_implies, false_implies, implies_true, Int32.reduceLE, Int32.reduceLT, Int32.reduceAdd, Int32.reduceSub, Int32.reduceOfInt, Int32.reduceToNatClampNeg, i10, i01, Nat.add_left_cancel_iff, Nat.left_eq_add, Nat.add_eq_left, cdX11_wipe, F1, eq_true hx, m.o, m.a10, i_cl (show t < 2147483648 by omega), r.ln ht]
    refine ⟨vp_in_nI (by omega) (by omega), vp_in_nI (by omega) (by omega), ?_⟩
    refine hq _ ⟨c, _, l, m.s10 (upd (a 10) t 0), r.1, r.2.1, fun t' ht' => ?_, fun t' i ht' hi => ?_, r.2.2.2.2⟩ (sOff.rf.set (by omega) (by omega))
    · show upd (a 10) t 0 t' = nI (fset M.len t 0 t')
      by_cases e : t' = t
      · subst e; rw [pk_us, fset_s]; rfl
      · rw [pk_un e, fset_n _ _ e]; exact r.ln ht'
    · have hi : i < fset M.len t 0 t' := hi
      show a 9 (40 * t' + i) = fset M.B t (M.B t) t' i
      by_cases e : t' = t
      · subst e; rw [fset_s] at hi; omega
      · rw [fset_n _ _ e] at hi ⊢; exact r.tx ht' hi
  · rw [if_neg hx] at hq
    refine go_ok okF1 (C := cdX11_wipe) (by rfl) [] 40 (by exact Nat.le_of_ble_eq_true rfl) ?_
    simp (maxSteps := 2000000) only [go, stp, inS, ↓reduceIte, Bool.false_eq_true, Nat.reduceLT, Nat.reduceEqDiff, Nat.reduceAdd, ldI, ldL, ldA, st1, st2, okS, List.getElem?_cons_zero, List.getElem?_cons_succ, List.length_cons, List.length_nil, List.set_cons_zero, List.set_cons_succ, callP, callF, popN, ct, Value.category, cI, List.getD_cons_zero, List.getD_cons_succ, and_self, and_true, true_and, Nat.zero_le, Nat.reduceLeDiff, Nat.add_zero, Nat.zero_add, List.nil_append, List.cons_append, Option.toList_some, Option.toList_none, List.append_nil, hset_ss, true_or, or_true, eq_self, beq_self_eq_true, List.drop_succ_cons, List.drop_zero, swT, swL, hset_ap, not_true_eq_false, not_false_eq_true, true_implies, false_implies, implies_true, Int32.reduceLE, Int32.reduceLT, Int32.reduceAdd, Int32.reduceSub, Int32.reduceOfInt, Int32.reduceToNatClampNeg, i10, i01, Nat.add_left_cancel_iff, Nat.left_eq_add, Nat.add_eq_left, cdX11_wipe, F1, eq_false hx]
    exact hq h m0 sOff.rf
set_option maxRecDepth 100000 in
set_option maxHeartbeats 400000 in
theorem D_byteOf {x i : Int32} (m : MI h M) (ok : MOk M) (hq : Q (some (.int (stByte M x i))) n h) : Ok 177 [.ref 52, .int x, .int i] n h Q := by
  have m0 := m
  obtain ⟨c, a, l, m, r⟩ := m
  unfold stByte at hq
  refine ok_of kMX11_byteOf kCX11_byteOf (Nat.le_of_ble_eq_true rfl) (fun z => ?_)
  change A z _ _ 0 0 _ 0 [some (.ref 52), some (.int x), some (.int i)] [] _
  by_cases hx : 0 ≤ x ∧ x < 2
  · obtain ⟨t, ht, rfl⟩ := i_of (n := 2) (by omega) (i_nlt.mpr hx.1) hx.2
    rw [i_cl (show t < 2147483648 by omega)] at hq
    have hl := ok.ln t ht
    by_cases hi : i < 0
    · rw [if_neg (fun q => absurd hi (i_nlt.mpr q.2))] at hq
      refine go_ok okF1 (C := cdX11_byteOf) (by rfl) [] 40 (by exact Nat.le_of_ble_eq_true rfl) ?_
      simp (maxSteps := 2000000) only [go, stp, inS, ↓reduceIte, Bool.false_eq_true, Nat.reduceLT, Nat.reduceEqDiff, Nat.reduceAdd, ldI, ldL, ldA, st1, st2, okS, List.getElem?_cons_zero, List.getElem?_cons_succ, List.length_cons, List.length_nil, List.set_cons_zero, List.set_cons_succ, callP, callF, popN, ct, Value.category, cI, List.getD_cons_zero, List.getD_cons_succ, and_self, and_true, true_and, Nat.zero_le, Nat.reduceLeDiff, Nat.add_zero, Nat.zero_add, List.nil_append, List.cons_append, Option.toList_some, Option.toList_none, List.append_nil, hset_ss, true_or, or_true, eq_self, beq_self_eq_true, List.drop_succ_cons, List.drop_zero, swT, swL, hset_ap, not_true_eq_false, not_false_eq_true, true_implies, false_implies, implies_true, Int32.reduceLE, Int32.reduceLT, Int32.reduceAdd, Int32.reduceSub, Int32.reduceOfInt, Int32.reduceToNatClampNeg, i10, i01, Nat.add_left_cancel_iff, Nat.left_eq_add, Nat.add_eq_left, cdX11_byteOf, F1, eq_true hx, eq_true hi]
      exact hq
    · rw [if_pos ⟨hx, i_nlt.mp hi⟩] at hq
      by_cases h2 : i < nI (M.len t)
      · obtain ⟨j, hj, rfl⟩ := i_of (by omega) hi h2
        rw [if_pos h2, i_cl (show j < 2147483648 by omega)] at hq
        have h3 : ¬ nI (M.len t) ≤ nI j := i_nle.mpr h2
        refine go_ok okF1 (C := cdX11_byteOf) (by rfl) [] 40 (by exact Nat.le_of_ble_eq_true rfl) ?_
        simp (maxSteps := 2000000) only [go, stp, inS, ↓reduceIte, Bool.false_eq_true, Nat.reduceLT, Nat.reduceEqDiff, Nat.reduceAdd, ldI, ldL, ldA, st1, st2, okS, List.getElem?_cons_zero, List.getElem?_cons_succ, List.length_cons, List.length_nil, List.set_cons_zero, List.set_cons_succ, callP, callF, popN, ct, Value.category, cI, List.getD_cons_zero, List.getD_cons_succ, and_self, and_true, true_and, Nat.zero_le, Nat.reduceLeDiff, Nat.add_zero, Nat.zero_add, List.nil_append, List.cons_append, Option.toList_some, Option.toList_none, List.append_nil, hset_ss, true_or, or_true, eq_self, beq_self_eq_true, List.drop_succ_cons, List.drop_zero, swT, swL, hset_ap, not_true_eq_false, not_false_eq_true, true_implies, false_implies, implies_true, Int32.reduceLE, Int32.reduceLT, Int32.reduceAdd, Int32.reduceSub, Int32.reduceOfInt, Int32.reduceToNatClampNeg, i10, i01, Nat.add_left_cancel_iff, Nat.left_eq_add, Nat.add_eq_left, cdX11_byteOf, F1, eq_true hx, hi, m.o, m.a10, m.a9, i_cl (show t < 2147483648 by omega), r.ln ht, h3, ix40, i_cl (show 40 * t + j < 2147483648 by omega), r.tx ht hj]
        exact ⟨vp_in_nI (by omega) (by omega), vp_in_nI (by omega) (by omega), hq⟩
      · rw [if_neg h2] at hq
        have h3 : nI (M.len t) ≤ i := i_nlt.mp h2
        refine go_ok okF1 (C := cdX11_byteOf) (by rfl) [] 40 (by exact Nat.le_of_ble_eq_true rfl) ?_
        simp (maxSteps := 2000000) only [go, stp, inS, ↓reduceIte, Bool.false_eq_true, Nat.reduceLT, Nat.reduceEqDiff, Nat.reduceAdd, ldI, ldL, ldA, st1, st2, okS, List.getElem?_cons_zero, List.getElem?_cons_succ, List.length_cons, List.length_nil, List.set_cons_zero, List.set_cons_succ, callP, callF, popN, ct, Value.category, cI, List.getD_cons_zero, List.getD_cons_succ, and_self, and_true, true_and, Nat.zero_le, Nat.reduceLeDiff, Nat.add_zero, Nat.zero_add, List.nil_append, List.cons_append, Option.toList_some, Option.toList_none, List.append_nil, hset_ss, true_or, or_true, eq_self, beq_self_eq_true, List.drop_succ_cons, List.drop_zero, swT, swL, hset_ap, not_true_eq_false, not_false_eq_true, true_implies, false_implies, implies_true, Int32.reduceLE, Int32.reduceLT, Int32.reduceAdd, Int32.reduceSub, Int32.reduceOfInt, Int32.reduceToNatClampNeg, i10, i01, Nat.add_left_cancel_iff, Nat.left_eq_add, Nat.add_eq_left, cdX11_byteOf, F1, eq_true hx, hi, m.o, m.a10, i_cl (show t < 2147483648 by omega), r.ln ht, h3]
        exact ⟨vp_in_nI (by omega) (by omega), hq⟩
  · rw [if_neg (fun q => hx q.1)] at hq
    refine go_ok okF1 (C := cdX11_byteOf) (by rfl) [] 40 (by exact Nat.le_of_ble_eq_true rfl) ?_
    simp (maxSteps := 2000000) only [go, stp, inS, ↓reduceIte, Bool.false_eq_true, Nat.reduceLT, Nat.reduceEqDiff, Nat.reduceAdd, ldI, ldL, ldA, st1, st2, okS, List.getElem?_cons_zero, List.getElem?_cons_succ, List.length_cons, List.length_nil, List.set_cons_zero, List.set_cons_succ, callP, callF, popN, ct, Value.category, cI, List.getD_cons_zero, List.getD_cons_succ, and_self, and_true, true_and, Nat.zero_le, Nat.reduceLeDiff, Nat.add_zero, Nat.zero_add, List.nil_append, List.cons_append, Option.toList_some, Option.toList_none, List.append_nil, hset_ss, true_or, or_true, eq_self, beq_self_eq_true, List.drop_succ_cons, List.drop_zero, swT, swL, hset_ap, not_true_eq_false, not_false_eq_true, true_implies, false_implies, implies_true, Int32.reduceLE, Int32.reduceLT, Int32.reduceAdd, Int32.reduceSub, Int32.reduceOfInt, Int32.reduceToNatClampNeg, i10, i01, Nat.add_left_cancel_iff, Nat.left_eq_add, Nat.add_eq_left, cdX11_byteOf, F1, eq_false hx]
    exact hq
set_option maxRecDepth 100000 in
set_option maxHeartbeats 400000 in
theorem D_set {x b : Int32} (m : MI h M) (hq : ∀ h', MI h' (stSet M x b).2 → sOff h h' 52 80 → Q (some (.int (stSet M x b).1)) n h') : Ok 201 [.ref 52, .int x, .int b] n h Q := by
  have m0 := m
  obtain ⟨c, a, l, m, r⟩ := m
  unfold stSet at hq
  refine ok_of kMX11_set kCX11_set (Nat.le_of_ble_eq_true rfl) (fun z => ?_)
  change A z _ _ 0 0 _ 0 [some (.ref 52), some (.int x), some (.int b), none] [] _
  by_cases hx : 0 ≤ x ∧ x < 2
  · by_cases hb : 0 ≤ b ∧ b ≤ 255
    · rw [if_pos ⟨hx, hb⟩] at hq
      by_cases x0 : x = 0
      · subst x0
        rw [if_pos rfl] at hq
        refine go_ok okF1 (C := cdX11_set) (by rfl) [] 40 (by exact Nat.le_of_ble_eq_true rfl) ?_
        simp (maxSteps := 2000000) only [go, stp, inS, ↓reduceIte, Bool.false_eq_true, Nat.reduceLT, Nat.reduceEqDiff, Nat.reduceAdd, ldI, ldL, ldA, st1, st2, okS, List.getElem?_cons_zero, List.getElem?_cons_succ, List.length_cons, List.length_nil, List.set_cons_zero, List.set_cons_succ, callP, callF, popN, ct, Value.category, cI, List.getD_cons_zero, List.getD_cons_succ, and_self, and_true, true_and, Nat.zero_le, Nat.reduceLeDiff, Nat.add_zero, Nat.zero_add, List.nil_append, List.cons_append, Option.toList_some, Option.toList_none, List.append_nil, hset_ss, true_or, or_true, eq_self, beq_self_eq_true, List.drop_succ_cons, List.drop_zero, swT, swL, hset_ap, not_true_eq_false, not_false_eq_true, true_implies, false_implies, implies_true, Int32.reduceLE, Int32.reduceLT, Int32.reduceAdd, Int32.reduceSub, Int32.reduceOfInt, Int32.reduceToNatClampNeg, i10, i01, Nat.add_left_cancel_iff, Nat.left_eq_add, Nat.add_eq_left, cdX11_set, F1, in01, eq_true hx, in0b, eq_true hb, m.o, r.ru]
        exact hq _ ⟨upd c 28 b, a, l, m.sc (upd c 28 b), ⟨r.1.1, r.1.2.1, rfl, r.1.2.2.2⟩, r.2⟩ (sOff.rf.set (by omega) (by omega))
      · rw [if_neg x0] at hq
        refine go_ok okF1 (C := cdX11_set) (by rfl) [] 40 (by exact Nat.le_of_ble_eq_true rfl) ?_
        simp (maxSteps := 2000000) only [go, stp, inS, ↓reduceIte, Bool.false_eq_true, Nat.reduceLT, Nat.reduceEqDiff, Nat.reduceAdd, ldI, ldL, ldA, st1, st2, okS, List.getElem?_cons_zero, List.getElem?_cons_succ, List.length_cons, List.length_nil, List.set_cons_zero, List.set_cons_succ, callP, callF, popN, ct, Value.category, cI, List.getD_cons_zero, List.getD_cons_succ, and_self, and_true, true_and, Nat.zero_le, Nat.reduceLeDiff, Nat.add_zero, Nat.zero_add, List.nil_append, List.cons_append, Option.toList_some, Option.toList_none, List.append_nil, hset_ss, true_or, or_true, eq_self, beq_self_eq_true, List.drop_succ_cons, List.drop_zero, swT, swL, hset_ap, not_true_eq_false, not_false_eq_true, true_implies, false_implies, implies_true, Int32.reduceLE, Int32.reduceLT, Int32.reduceAdd, Int32.reduceSub, Int32.reduceOfInt, Int32.reduceToNatClampNeg, i10, i01, Nat.add_left_cancel_iff, Nat.left_eq_add, Nat.add_eq_left, cdX11_set, F1, in01, eq_true hx, in0b, eq_true hb, m.o, r.fa, x0]
        exact hq _ ⟨upd c 29 b, a, l, m.sc (upd c 29 b), ⟨r.1.1, r.1.2.1, r.1.2.2.1, rfl⟩, r.2⟩ (sOff.rf.set (by omega) (by omega))
    · rw [if_neg (fun q => hb q.2)] at hq
      refine go_ok okF1 (C := cdX11_set) (by rfl) [] 40 (by exact Nat.le_of_ble_eq_true rfl) ?_
      simp (maxSteps := 2000000) only [go, stp, inS, ↓reduceIte, Bool.false_eq_true, Nat.reduceLT, Nat.reduceEqDiff, Nat.reduceAdd, ldI, ldL, ldA, st1, st2, okS, List.getElem?_cons_zero, List.getElem?_cons_succ, List.length_cons, List.length_nil, List.set_cons_zero, List.set_cons_succ, callP, callF, popN, ct, Value.category, cI, List.getD_cons_zero, List.getD_cons_succ, and_self, and_true, true_and, Nat.zero_le, Nat.reduceLeDiff, Nat.add_zero, Nat.zero_add, List.nil_append, List.cons_append, Option.toList_some, Option.toList_none, List.append_nil, hset_ss, true_or, or_true, eq_self, beq_self_eq_true, List.drop_succ_cons, List.drop_zero, swT, swL, hset_ap, not_true_eq_false, not_false_eq_true, true_implies, false_implies, implies_true, Int32.reduceLE, Int32.reduceLT, Int32.reduceAdd, Int32.reduceSub, Int32.reduceOfInt, Int32.reduceToNatClampNeg, i10, i01, Nat.add_left_cancel_iff, Nat.left_eq_add, Nat.add_eq_left, cdX11_set, F1, in01, eq_true hx, in0b, eq_false hb]
      exact hq h m0 sOff.rf
  · rw [if_neg (fun q => hx q.1)] at hq
    refine go_ok okF1 (C := cdX11_set) (by rfl) [] 40 (by exact Nat.le_of_ble_eq_true rfl) ?_
    simp (maxSteps := 2000000) only [go, stp, inS, ↓reduceIte, Bool.false_eq_true, Nat.reduceLT, Nat.reduceEqDiff, Nat.reduceAdd, ldI, ldL, ldA, st1, st2, okS, List.getElem?_cons_zero, List.getElem?_cons_succ, List.length_cons, List.length_nil, List.set_cons_zero, List.set_cons_succ, callP, callF, popN, ct, Value.category, cI, List.getD_cons_zero, List.getD_cons_succ, and_self, and_true, true_and, Nat.zero_le, Nat.reduceLeDiff, Nat.add_zero, Nat.zero_add, List.nil_append, List.cons_append, Option.toList_some, Option.toList_none, List.append_nil, hset_ss, true_or, or_true, eq_self, beq_self_eq_true, List.drop_succ_cons, List.drop_zero, swT, swL, hset_ap, not_true_eq_false, not_false_eq_true, true_implies, false_implies, implies_true, Int32.reduceLE, Int32.reduceLT, Int32.reduceAdd, Int32.reduceSub, Int32.reduceOfInt, Int32.reduceToNatClampNeg, i10, i01, Nat.add_left_cancel_iff, Nat.left_eq_add, Nat.add_eq_left, cdX11_set, F1, in01, eq_false hx]
    exact hq h m0 sOff.rf
set_option maxRecDepth 100000 in
set_option maxHeartbeats 400000 in
theorem D_learnt {x y : Int32} (m : MI h M) (hq : Q (some (.int (stLearnt M x y))) n h) : Ok 226 [.ref 52, .int x, .int y] n h Q := by
  obtain ⟨c, a, l, m, r⟩ := m
  unfold stLearnt at hq
  refine ok_of kMX11_learnt kCX11_learnt (Nat.le_of_ble_eq_true rfl) (fun z => ?_)
  change A z _ _ 0 0 _ 0 [some (.ref 52), some (.int x), some (.int y)] [] _
  by_cases hx : 0 ≤ x ∧ x < 8
  · by_cases hy : 0 ≤ y ∧ y < 8
    · by_cases hxy : x = y
      · subst hxy
        rw [if_neg (fun q => q.2.2 rfl)] at hq
        refine go_ok okF1 (C := cdX11_learnt) (by rfl) [] 40 (by exact Nat.le_of_ble_eq_true rfl) ?_
        simp (maxSteps := 2000000) only [go, stp, inS, ↓reduceIte, Bool.false_eq_true, Nat.reduceLT, Nat.reduceEqDiff, Nat.reduceAdd, ldI, ldL, ldA, st1, st2, okS, List.getElem?_cons_zero, List.getElem?_cons_succ, List.length_cons, List.length_nil, List.set_cons_zero, List.set_cons_succ, callP, callF, popN, ct, Value.category, cI, List.getD_cons_zero, List.getD_cons_succ, and_self, and_true, true_and, Nat.zero_le, Nat.reduceLeDiff, Nat.add_zero, Nat.zero_add, List.nil_append, List.cons_append, Option.toList_some, Option.toList_none, List.append_nil, hset_ss, true_or, or_true, eq_self, beq_self_eq_true, List.drop_succ_cons, List.drop_zero, swT, swL, hset_ap, not_true_eq_false, not_false_eq_true, true_implies, false_implies, implies_true, Int32.reduceLE, Int32.reduceLT, Int32.reduceAdd, Int32.reduceSub, Int32.reduceOfInt, Int32.reduceToNatClampNeg, i10, i01, Nat.add_left_cancel_iff, Nat.left_eq_add, Nat.add_eq_left, cdX11_learnt, F1, in07, eq_true hx]
        exact hq
      · rw [if_pos ⟨hx, hy, hxy⟩] at hq
        obtain ⟨i, hi, rfl⟩ := i_of (n := 8) (by omega) (i_nlt.mpr hx.1) hx.2
        obtain ⟨j, hj, rfl⟩ := i_of (n := 8) (by omega) (i_nlt.mpr hy.1) hy.2
        rw [i_cl (show i < 2147483648 by omega), i_cl (show j < 2147483648 by omega)] at hq
        refine go_ok okF1 (C := cdX11_learnt) (by rfl) [] 40 (by exact Nat.le_of_ble_eq_true rfl) ?_
        simp (maxSteps := 2000000) only [go, stp, inS, ↓reduceIte, Bool.false_eq_true, Nat.reduceLT, Nat.reduceEqDiff, Nat.reduceAdd, ldI, ldL, ldA, st1, st2, okS, List.getElem?_cons_zero, List.getElem?_cons_succ, List.length_cons, List.length_nil, List.set_cons_zero, List.set_cons_succ, callP, callF, popN, ct, Value.category, cI, List.getD_cons_zero, List.getD_cons_succ, and_self, and_true, true_and, Nat.zero_le, Nat.reduceLeDiff, Nat.add_zero, Nat.zero_add, List.nil_append, List.cons_append, Option.toList_some, Option.toList_none, List.append_nil, hset_ss, true_or, or_true, eq_self, beq_self_eq_true, List.drop_succ_cons, List.drop_zero, swT, swL, hset_ap, not_true_eq_false, not_false_eq_true, true_implies, false_implies, implies_true, Int32.reduceLE, Int32.reduceLT, Int32.reduceAdd, Int32.reduceSub, Int32.reduceOfInt, Int32.reduceToNatClampNeg, i10, i01, Nat.add_left_cancel_iff, Nat.left_eq_add, Nat.add_eq_left, cdX11_learnt, F1, in07, eq_true hx, eq_true hy, hxy, m.o, m.a40, i_cl (show i < 2147483648 by omega), r.pa hi, b_ask _ (show j < 32 by omega)]
        exact ⟨vp_in_nI (by omega) (by omega), hq⟩
    · rw [if_neg (fun q => hy q.2.1)] at hq
      refine go_ok okF1 (C := cdX11_learnt) (by rfl) [] 40 (by exact Nat.le_of_ble_eq_true rfl) ?_
      simp (maxSteps := 2000000) only [go, stp, inS, ↓reduceIte, Bool.false_eq_true, Nat.reduceLT, Nat.reduceEqDiff, Nat.reduceAdd, ldI, ldL, ldA, st1, st2, okS, List.getElem?_cons_zero, List.getElem?_cons_succ, List.length_cons, List.length_nil, List.set_cons_zero, List.set_cons_succ, callP, callF, popN, ct, Value.category, cI, List.getD_cons_zero, List.getD_cons_succ, and_self, and_true, true_and, Nat.zero_le, Nat.reduceLeDiff, Nat.add_zero, Nat.zero_add, List.nil_append, List.cons_append, Option.toList_some, Option.toList_none, List.append_nil, hset_ss, true_or, or_true, eq_self, beq_self_eq_true, List.drop_succ_cons, List.drop_zero, swT, swL, hset_ap, not_true_eq_false, not_false_eq_true, true_implies, false_implies, implies_true, Int32.reduceLE, Int32.reduceLT, Int32.reduceAdd, Int32.reduceSub, Int32.reduceOfInt, Int32.reduceToNatClampNeg, i10, i01, Nat.add_left_cancel_iff, Nat.left_eq_add, Nat.add_eq_left, cdX11_learnt, F1, in07, eq_true hx, eq_false hy]
      exact hq
  · rw [if_neg (fun q => hx q.1)] at hq
    refine go_ok okF1 (C := cdX11_learnt) (by rfl) [] 40 (by exact Nat.le_of_ble_eq_true rfl) ?_
    simp (maxSteps := 2000000) only [go, stp, inS, ↓reduceIte, Bool.false_eq_true, Nat.reduceLT, Nat.reduceEqDiff, Nat.reduceAdd, ldI, ldL, ldA, st1, st2, okS, List.getElem?_cons_zero, List.getElem?_cons_succ, List.length_cons, List.length_nil, List.set_cons_zero, List.set_cons_succ, callP, callF, popN, ct, Value.category, cI, List.getD_cons_zero, List.getD_cons_succ, and_self, and_true, true_and, Nat.zero_le, Nat.reduceLeDiff, Nat.add_zero, Nat.zero_add, List.nil_append, List.cons_append, Option.toList_some, Option.toList_none, List.append_nil, hset_ss, true_or, or_true, eq_self, beq_self_eq_true, List.drop_succ_cons, List.drop_zero, swT, swL, hset_ap, not_true_eq_false, not_false_eq_true, true_implies, false_implies, implies_true, Int32.reduceLE, Int32.reduceLT, Int32.reduceAdd, Int32.reduceSub, Int32.reduceOfInt, Int32.reduceToNatClampNeg, i10, i01, Nat.add_left_cancel_iff, Nat.left_eq_add, Nat.add_eq_left, cdX11_learnt, F1, in07, eq_false hx]
    exact hq
end MC
