
/-! GrownAsks$Pairs -/
def PaAt (h : aH) (t : Nat) (P : Nat → Int32) (m : Int32) : Prop := h t = some (.inl (4, [.ref (t + 1), .int m])) ∧ h (t + 1) = some (.inr (8, .inl P))
theorem PaAt.kept {h h' : aH} {t : Nat} {P : Nat → Int32} {m : Int32} (hS : PaAt h t P m) (hk : ∀ q, t ≤ q → q < t + 2 → h' q = h q) : PaAt h' t P m := ⟨by rw [hk _ (by omega) (by omega)]; exact hS.1, by rw [hk _ (by omega) (by omega)]; exact hS.2⟩
def npF (P : Nat → Int32) (x : Int32) (q : Nat) : Int32 := if bt x q = true then (x &&& (((1 : Int32) <<< (nI q &&& 31)) ^^^ (-1))) &&& (P q ^^^ (-1)) else 0
def smF (g : Nat → Int32) : Nat → Int32
  | 0 => 0
  | m + 1 => smF g m + g m
theorem r8 {q : Nat} (h : q < 8) : (0 ≤ nI q ∧ nI q < 8) := ⟨(i_le (a := 0) (by omega) (by omega)).mpr (by omega), (i_lt (b := 8) (by omega) (by omega)).mpr h⟩
section PA
variable {n : Nat} {h : aH} {Q : aQ} {t : Nat} {P : Nat → Int32} {m : Int32} {x : Int32}
set_option maxRecDepth 100000 in
set_option maxHeartbeats 400000 in
theorem P_new {q : Nat} (hP : PaAt h t P m) (hq8 : q < 8) (hq : Q (some (.int (npF P x q))) n h) : Ok 32 [.ref t, .int (nI q), .int x] n h Q := by
  unfold npF at hq
  refine ok_of kMX4_newPartners kCX4_newPartners (Nat.le_of_ble_eq_true rfl) (fun z => ?_)
  change A z _ _ 0 0 _ 0 [some (.ref t), some (.int (nI q)), some (.int x), none] [] _
  refine go_ok okF1 (C := cdX4_newPartners) (by rfl) [] 60 (by exact Nat.le_of_ble_eq_true rfl) ?_
  simp (maxSteps := 2000000) only [go, stp, inS, ↓reduceIte, Bool.false_eq_true, Nat.reduceLT, Nat.reduceEqDiff, Nat.reduceAdd, ldI, ldL, ldA, st1, st2, okS, List.getElem?_cons_zero, List.getElem?_cons_succ, List.length_cons, List.length_nil, List.set_cons_zero, List.set_cons_succ, callP, callF, popN, ct, Value.category, cI, List.getD_cons_zero, List.getD_cons_succ, and_self, and_true, true_and, Nat.zero_le, Nat.reduceLeDiff, Nat.add_zero, Nat.zero_add, List.nil_append, List.cons_append, Option.toList_some, Option.toList_none, List.append_nil, hset_ss, true_or, or_true, eq_self, beq_self_eq_true, List.drop_succ_cons, List.drop_zero, swT, swL, hset_ap, not_true_eq_false, not_false_eq_true, true_implies, false_implies, implies_true, Int32.reduceLE, Int32.reduceLT, Int32.reduceAdd, Int32.reduceSub, Int32.reduceOfInt, Int32.reduceToNatClampNeg, i10, i01, Nat.add_left_cancel_iff, Nat.left_eq_add, Nat.add_eq_left, cdX4_newPartners, F1, hP.1, hP.2, r8 hq8, b_ask0 x (show q < 32 by omega), i_cl (show q < 2147483648 by omega), ib0]
  refine ⟨fun c => ?_, fun c => ?_⟩
  · rw [if_neg (by rw [c]; decide)] at hq; exact hq
  · rw [if_pos (by simpa using c)] at hq; exact ⟨vp_in_nI (by omega) (by omega), hq⟩
set_option maxRecDepth 100000 in
set_option maxHeartbeats 400000 in
theorem P_hasNew (hP : PaAt h t P m) (hq : Q (some (.int (if anyB 8 (fun q => !(npF P x q == 0)) = true then 1 else 0))) n h) : Ok 33 [.ref t, .int x] n h Q := by
  refine ok_of kMX4_hasNew kCX4_hasNew (Nat.le_of_ble_eq_true rfl) (fun z => ?_)
  change A z _ _ 0 0 _ 0 [some (.ref t), some (.int x), none] [] _
  refine go_ok okF1 (C := cdX4_hasNew) (by rfl) [2] 30 (by exact Nat.le_of_ble_eq_true rfl) ?_
  simp (maxSteps := 2000000) only [go, stp, inS, ↓reduceIte, Bool.false_eq_true, Nat.reduceLT, Nat.reduceEqDiff, Nat.reduceAdd, ldI, ldL, ldA, st1, st2, okS, List.getElem?_cons_zero, List.getElem?_cons_succ, List.length_cons, List.length_nil, List.set_cons_zero, List.set_cons_succ, callP, callF, popN, ct, Value.category, cI, List.getD_cons_zero, List.getD_cons_succ, and_self, and_true, true_and, Nat.zero_le, Nat.reduceLeDiff, Nat.add_zero, Nat.zero_add, List.nil_append, List.cons_append, Option.toList_some, Option.toList_none, List.append_nil, hset_ss, true_or, or_true, eq_self, beq_self_eq_true, List.drop_succ_cons, List.drop_zero, swT, swL, hset_ap, not_true_eq_false, not_false_eq_true, true_implies, false_implies, implies_true, Int32.reduceLE, Int32.reduceLT, Int32.reduceAdd, Int32.reduceSub, Int32.reduceOfInt, Int32.reduceToNatClampNeg, i10, i01, Nat.add_left_cancel_iff, Nat.left_eq_add, Nat.add_eq_left, cdX4_hasNew, F1]
  have loop : ∀ k i, i + k = 8 → (∀ q, q < i → npF P x q = 0) → A z 33 n 0 0 h 2 [some (.ref t), some (.int x), some (.int (nI i))] [] Q := by
    intro k
    induction k with
    | zero =>
      intro i hi hz
      have : i = 8 := by omega
      subst this
      refine go_ok okF1 (C := cdX4_hasNew) (by rfl) [2] 30 (by exact Nat.le_of_ble_eq_true rfl) ?_
      simp (maxSteps := 2000000) only [go, stp, inS, ↓reduceIte, Bool.false_eq_true, Nat.reduceLT, Nat.reduceEqDiff, Nat.reduceAdd, ldI, ldL, ldA, st1, st2, okS, List.getElem?_cons_zero, List.getElem?_cons_succ, List.length_cons, List.length_nil, List.set_cons_zero, List.set_cons_succ, callP, callF, popN, ct, Value.category, cI, List.getD_cons_zero, List.getD_cons_succ, and_self, and_true, true_and, Nat.zero_le, Nat.reduceLeDiff, Nat.add_zero, Nat.zero_add, List.nil_append, List.cons_append, Option.toList_some, Option.toList_none, List.append_nil, hset_ss, true_or, or_true, eq_self, beq_self_eq_true, List.drop_succ_cons, List.drop_zero, swT, swL, hset_ap, not_true_eq_false, not_false_eq_true, true_implies, false_implies, implies_true, Int32.reduceLE, Int32.reduceLT, Int32.reduceAdd, Int32.reduceSub, Int32.reduceOfInt, Int32.reduceToNatClampNeg, i10, i01, Nat.add_left_cancel_iff, Nat.left_eq_add, Nat.add_eq_left, cdX4_hasNew, F1, (show (8 : Int32) ≤ nI 8 from by decide)]
      rw [if_neg (by rw [anyB_iff]; rintro ⟨q, h1, h2⟩; rw [hz q h1] at h2; exact absurd h2 (by decide))] at hq
      exact hq
    | succ k ih =>
      intro i hi hz
      have hlt : ¬ (8 : Int32) ≤ nI i := by rw [show (8 : Int32) = nI 8 from rfl, i_le (by omega) (by omega)]; omega
      refine go_ok okF1 (C := cdX4_hasNew) (by rfl) [2] 30 (by exact Nat.le_of_ble_eq_true rfl) ?_
      simp (maxSteps := 2000000) only [go, stp, inS, ↓reduceIte, Bool.false_eq_true, Nat.reduceLT, Nat.reduceEqDiff, Nat.reduceAdd, ldI, ldL, ldA, st1, st2, okS, List.getElem?_cons_zero, List.getElem?_cons_succ, List.length_cons, List.length_nil, List.set_cons_zero, List.set_cons_succ, callP, callF, popN, ct, Value.category, cI, List.getD_cons_zero, List.getD_cons_succ, and_self, and_true, true_and, Nat.zero_le, Nat.reduceLeDiff, Nat.add_zero, Nat.zero_add, List.nil_append, List.cons_append, Option.toList_some, Option.toList_none, List.append_nil, hset_ss, true_or, or_true, eq_self, beq_self_eq_true, List.drop_succ_cons, List.drop_zero, swT, swL, hset_ap, not_true_eq_false, not_false_eq_true, true_implies, false_implies, implies_true, Int32.reduceLE, Int32.reduceLT, Int32.reduceAdd, Int32.reduceSub, Int32.reduceOfInt, Int32.reduceToNatClampNeg, i10, i01, Nat.add_left_cancel_iff, Nat.left_eq_add, Nat.add_eq_left, cdX4_hasNew, F1, hlt, hP.1]
      refine P_new hP (by omega) ?_
      refine go_ok okF1 (C := cdX4_hasNew) (by rfl) [2] 30 (by exact Nat.le_of_ble_eq_true rfl) ?_
      simp (maxSteps := 2000000) only [go, stp, inS, ↓reduceIte, Bool.false_eq_true, Nat.reduceLT, Nat.reduceEqDiff, Nat.reduceAdd, ldI, ldL, ldA, st1, st2, okS, List.getElem?_cons_zero, List.getElem?_cons_succ, List.length_cons, List.length_nil, List.set_cons_zero, List.set_cons_succ, callP, callF, popN, ct, Value.category, cI, List.getD_cons_zero, List.getD_cons_succ, and_self, and_true, true_and, Nat.zero_le, Nat.reduceLeDiff, Nat.add_zero, Nat.zero_add, List.nil_append, List.cons_append, Option.toList_some, Option.toList_none, List.append_nil, hset_ss, true_or, or_true, eq_self, beq_self_eq_true, List.drop_succ_cons, List.drop_zero, swT, swL, hset_ap, not_true_eq_false, not_false_eq_true, true_implies, false_implies, implies_true, Int32.reduceLE, Int32.reduceLT, Int32.reduceAdd, Int32.reduceSub, Int32.reduceOfInt, Int32.reduceToNatClampNeg, i10, i01, Nat.add_left_cancel_iff, Nat.left_eq_add, Nat.add_eq_left, cdX4_hasNew, F1, nI_1]
      refine ⟨fun c => ih (i + 1) (by omega) (fun q hq => ?_), fun c => ?_⟩
      · by_cases hqi : q = i
        · subst hqi; exact c
        · exact hz q (by omega)
      · rw [if_pos (anyB_iff.mpr ⟨i, by omega, by simpa using c⟩)] at hq; exact hq
  exact loop 8 0 (by omega) (fun q hq => absurd hq (by omega))
def keF (P : Nat → Int32) (x : Int32) (q : Nat) : Int32 := if q < 8 then P q ||| npF P x q else P q
set_option maxRecDepth 100000 in
set_option maxHeartbeats 400000 in
theorem P_keep (hP : PaAt h t P m) (hq : ∀ h', PaAt h' t (keF P x) (m + smF (fun q => bcE (npF P x q)) 8 / 2) → sOff h h' t (t + 2) → Q (some (.int (smF (fun q => bcE (npF P x q)) 8 / 2))) n h') : Ok 34 [.ref t, .int x] n h Q := by
  refine ok_of kMX4_keep kCX4_keep (Nat.le_of_ble_eq_true rfl) (fun z => ?_)
  change A z _ _ 0 0 _ 0 [some (.ref t), some (.int x), none, none, none] [] _
  refine go_ok okF1 (C := cdX4_keep) (by rfl) [4] 30 (by exact Nat.le_of_ble_eq_true rfl) ?_
  simp (maxSteps := 2000000) only [go, stp, inS, ↓reduceIte, Bool.false_eq_true, Nat.reduceLT, Nat.reduceEqDiff, Nat.reduceAdd, ldI, ldL, ldA, st1, st2, okS, List.getElem?_cons_zero, List.getElem?_cons_succ, List.length_cons, List.length_nil, List.set_cons_zero, List.set_cons_succ, callP, callF, popN, ct, Value.category, cI, List.getD_cons_zero, List.getD_cons_succ, and_self, and_true, true_and, Nat.zero_le, Nat.reduceLeDiff, Nat.add_zero, Nat.zero_add, List.nil_append, List.cons_append, Option.toList_some, Option.toList_none, List.append_nil, hset_ss, true_or, or_true, eq_self, beq_self_eq_true, List.drop_succ_cons, List.drop_zero, swT, swL, hset_ap, not_true_eq_false, not_false_eq_true, true_implies, false_implies, implies_true, Int32.reduceLE, Int32.reduceLT, Int32.reduceAdd, Int32.reduceSub, Int32.reduceOfInt, Int32.reduceToNatClampNeg, i10, i01, Nat.add_left_cancel_iff, Nat.left_eq_add, Nat.add_eq_left, cdX4_keep, F1]
  have loop : ∀ k i (h' : aH) (P' : Nat → Int32) o4, i + k = 8 → PaAt h' t P' m → (∀ q, P' q = if q < i then P q ||| npF P x q else P q) → sOff h h' t (t + 2) → A z 34 n 0 0 h' 4 [some (.ref t), some (.int x), some (.int (smF (fun q => bcE (npF P x q)) i)), some (.int (nI i)), o4] [] Q := by
    intro k
    induction k with
    | zero =>
      intro i h' P' o4 hi hP' hz hO
      have : i = 8 := by omega
      subst this
      refine go_ok okF1 (C := cdX4_keep) (by rfl) [4] 30 (by exact Nat.le_of_ble_eq_true rfl) ?_
      simp (maxSteps := 2000000) only [go, stp, inS, ↓reduceIte, Bool.false_eq_true, Nat.reduceLT, Nat.reduceEqDiff, Nat.reduceAdd, ldI, ldL, ldA, st1, st2, okS, List.getElem?_cons_zero, List.getElem?_cons_succ, List.length_cons, List.length_nil, List.set_cons_zero, List.set_cons_succ, callP, callF, popN, ct, Value.category, cI, List.getD_cons_zero, List.getD_cons_succ, and_self, and_true, true_and, Nat.zero_le, Nat.reduceLeDiff, Nat.add_zero, Nat.zero_add, List.nil_append, List.cons_append, Option.toList_some, Option.toList_none, List.append_nil, hset_ss, true_or, or_true, eq_self, beq_self_eq_true, List.drop_succ_cons, List.drop_zero, swT, swL, hset_ap, not_true_eq_false, not_false_eq_true, true_implies, false_implies, implies_true, Int32.reduceLE, Int32.reduceLT, Int32.reduceAdd, Int32.reduceSub, Int32.reduceOfInt, Int32.reduceToNatClampNeg, i10, i01, Nat.add_left_cancel_iff, Nat.left_eq_add, Nat.add_eq_left, cdX4_keep, F1, (show (8 : Int32) ≤ nI 8 from by decide), hP'.1]
      have e : P' = keF P x := by funext q; rw [hz q]; rfl
      refine ⟨by decide, by decide, ?_⟩
      refine hq _ ⟨hset_s _ _ _, ?_⟩ (hO.set (by omega) (by omega))
      rw [hset_n _ _ (by omega), ← e]; exact hP'.2
    | succ k ih =>
      intro i h' P' o4 hi hP' hz hO
      have hlt : ¬ (8 : Int32) ≤ nI i := by rw [show (8 : Int32) = nI 8 from rfl, i_le (by omega) (by omega)]; omega
      have hPi : P' i = P i := by rw [hz i, if_neg (by omega)]
      refine go_ok okF1 (C := cdX4_keep) (by rfl) [4] 30 (by exact Nat.le_of_ble_eq_true rfl) ?_
      simp (maxSteps := 2000000) only [go, stp, inS, ↓reduceIte, Bool.false_eq_true, Nat.reduceLT, Nat.reduceEqDiff, Nat.reduceAdd, ldI, ldL, ldA, st1, st2, okS, List.getElem?_cons_zero, List.getElem?_cons_succ, List.length_cons, List.length_nil, List.set_cons_zero, List.set_cons_succ, callP, callF, popN, ct, Value.category, cI, List.getD_cons_zero, List.getD_cons_succ, and_self, and_true, true_and, Nat.zero_le, Nat.reduceLeDiff, Nat.add_zero, Nat.zero_add, List.nil_append, List.cons_append, Option.toList_some, Option.toList_none, List.append_nil, hset_ss, true_or, or_true, eq_self, beq_self_eq_true, List.drop_succ_cons, List.drop_zero, swT, swL, hset_ap, not_true_eq_false, not_false_eq_true, true_implies, false_implies, implies_true, Int32.reduceLE, Int32.reduceLT, Int32.reduceAdd, Int32.reduceSub, Int32.reduceOfInt, Int32.reduceToNatClampNeg, i10, i01, Nat.add_left_cancel_iff, Nat.left_eq_add, Nat.add_eq_left, cdX4_keep, F1, hlt, hP'.1]
      refine P_new hP' (by omega) ?_
      rw [show npF P' x i = npF P x i by unfold npF; rw [hPi]]
      refine go_ok okF1 (C := cdX4_keep) (by rfl) [4] 30 (by exact Nat.le_of_ble_eq_true rfl) ?_
      simp (maxSteps := 2000000) only [go, stp, inS, ↓reduceIte, Bool.false_eq_true, Nat.reduceLT, Nat.reduceEqDiff, Nat.reduceAdd, ldI, ldL, ldA, st1, st2, okS, List.getElem?_cons_zero, List.getElem?_cons_succ, List.length_cons, List.length_nil, List.set_cons_zero, List.set_cons_succ, callP, callF, popN, ct, Value.category, cI, List.getD_cons_zero, List.getD_cons_succ, and_self, and_true, true_and, Nat.zero_le, Nat.reduceLeDiff, Nat.add_zero, Nat.zero_add, List.nil_append, List.cons_append, Option.toList_some, Option.toList_none, List.append_nil, hset_ss, true_or, or_true, eq_self, beq_self_eq_true, List.drop_succ_cons, List.drop_zero, swT, swL, hset_ap, not_true_eq_false, not_false_eq_true, true_implies, false_implies, implies_true, Int32.reduceLE, Int32.reduceLT, Int32.reduceAdd, Int32.reduceSub, Int32.reduceOfInt, Int32.reduceToNatClampNeg, i10, i01, Nat.add_left_cancel_iff, Nat.left_eq_add, Nat.add_eq_left, cdX4_keep, F1, hP'.1, hP'.2, i_cl (show i < 2147483648 by omega)]
      refine ⟨vp_in_nI (by omega) (by omega), vp_in_nI (by omega) (by omega), T_bitCount ?_⟩
      refine go_ok okF1 (C := cdX4_keep) (by rfl) [4] 30 (by exact Nat.le_of_ble_eq_true rfl) ?_
      simp (maxSteps := 2000000) only [go, stp, inS, ↓reduceIte, Bool.false_eq_true, Nat.reduceLT, Nat.reduceEqDiff, Nat.reduceAdd, ldI, ldL, ldA, st1, st2, okS, List.getElem?_cons_zero, List.getElem?_cons_succ, List.length_cons, List.length_nil, List.set_cons_zero, List.set_cons_succ, callP, callF, popN, ct, Value.category, cI, List.getD_cons_zero, List.getD_cons_succ, and_self, and_true, true_and, Nat.zero_le, Nat.reduceLeDiff, Nat.add_zero, Nat.zero_add, List.nil_append, List.cons_append, Option.toList_some, Option.toList_none, List.append_nil, hset_ss, true_or, or_true, eq_self, beq_self_eq_true, List.drop_succ_cons, List.drop_zero, swT, swL, hset_ap, not_true_eq_false, not_false_eq_true, true_implies, false_implies, implies_true, Int32.reduceLE, Int32.reduceLT, Int32.reduceAdd, Int32.reduceSub, Int32.reduceOfInt, Int32.reduceToNatClampNeg, i10, i01, Nat.add_left_cancel_iff, Nat.left_eq_add, Nat.add_eq_left, cdX4_keep, F1, nI_1]
      refine ih (i + 1) _ (upd P' i (P' i ||| npF P x i)) _ (by omega) ⟨by simp [hset_ap, hP'.1], by simp [hset_ap]⟩ (fun q => ?_) (hO.set (by omega) (by omega))
      by_cases hqi : q = i
      · subst hqi; simp only [upd, if_true]; rw [if_pos (by omega), hPi]
      · simp only [upd, hqi, if_false]; rw [hz q]
        by_cases hlq : q < i
        · rw [if_pos hlq, if_pos (by omega)]
        · rw [if_neg hlq, if_neg (by omega)]
  exact loop 8 0 h P _ (by omega) hP (fun q => by rw [if_neg (by omega)]) sOff.rf
set_option maxRecDepth 100000 in
set_option maxHeartbeats 400000 in
theorem P_isKept {a b : Nat} (hP : PaAt h t P m) (ha : a < 8) (hb : b < 8) (hq : Q (some (.int (if bt (P a) b = true then 1 else 0))) n h) : Ok 35 [.ref t, .int (nI a), .int (nI b)] n h Q := by
  refine ok_of kMX4_isKept kCX4_isKept (Nat.le_of_ble_eq_true rfl) (fun z => ?_)
  change A z _ _ 0 0 _ 0 [some (.ref t), some (.int (nI a)), some (.int (nI b))] [] _
  refine go_ok okF1 (C := cdX4_isKept) (by rfl) [] 60 (by exact Nat.le_of_ble_eq_true rfl) ?_
  simp (maxSteps := 2000000) only [go, stp, inS, ↓reduceIte, Bool.false_eq_true, Nat.reduceLT, Nat.reduceEqDiff, Nat.reduceAdd, ldI, ldL, ldA, st1, st2, okS, List.getElem?_cons_zero, List.getElem?_cons_succ, List.length_cons, List.length_nil, List.set_cons_zero, List.set_cons_succ, callP, callF, popN, ct, Value.category, cI, List.getD_cons_zero, List.getD_cons_succ, and_self, and_true, true_and, Nat.zero_le, Nat.reduceLeDiff, Nat.add_zero, Nat.zero_add, List.nil_append, List.cons_append, Option.toList_some, Option.toList_none, List.append_nil, hset_ss, true_or, or_true, eq_self, beq_self_eq_true, List.drop_succ_cons, List.drop_zero, swT, swL, hset_ap, not_true_eq_false, not_false_eq_true, true_implies, false_implies, implies_true, Int32.reduceLE, Int32.reduceLT, Int32.reduceAdd, Int32.reduceSub, Int32.reduceOfInt, Int32.reduceToNatClampNeg, i10, i01, Nat.add_left_cancel_iff, Nat.left_eq_add, Nat.add_eq_left, cdX4_isKept, F1, hP.1, hP.2, r8 ha, r8 hb, b_ask0 (P a) (show b < 32 by omega), i_cl (show a < 2147483648 by omega), ib0]
  refine ⟨vp_in_nI (by omega) (by omega), fun c => ?_, fun c => ?_⟩
  · rw [if_neg (by rw [c]; decide)] at hq; exact hq
  · rw [if_pos (by simpa using c)] at hq; exact hq
end PA
