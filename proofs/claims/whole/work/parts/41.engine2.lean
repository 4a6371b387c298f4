
/-! GrownAsks$Engine: an object of three cells (itself, its sides, its verdicts) -/
def EnO (h : aH) (t tb : Nat) (al dn fi : Int32) : Prop := h t = some (.inl (1, [.ref tb, .ref (t + 1), .ref (t + 2), .int al, .int dn, .int fi]))
-- a rule fires: what it sets
def firS (fi fi' : Int32) (rule : Nat) (P : Prop) : Prop := ∀ i, i < 32 → (bt fi' i = true ↔ (bt fi i = true ∨ (i = rule ∧ P)))
set_option maxRecDepth 100000 in
set_option maxHeartbeats 400000 in
theorem E_fire {n : Nat} {h : aH} {Q : aQ} {t tb : Nat} {al dn fi rows : Int32} {rule : Nat} (hE : EnO h t tb al dn fi) (hr : rule < 8)
    (hq : ∀ h' fi', EnO h' t tb al dn fi' → firS fi fi' rule (¬ rows = 0) → sOff h h' t (t + 1) → Q (some (.int (if bt dn rule = true then rows else 0))) n h') : Ok 9 [.ref t, .int (nI rule), .int rows] n h Q := by
  unfold EnO at hE
  have tail : ∀ z h' fi', EnO h' t tb al dn fi' → firS fi fi' rule (¬ rows = 0) → sOff h h' t (t + 1) → A z 9 n 0 0 h' 16 [some (.ref t), some (.int (nI rule)), some (.int rows)] [] Q := by
    intro z h' fi' hE' hf hO
    refine go_ok okF1 (C := cdX1_fire) (by rfl) [] 40 (by exact Nat.le_of_ble_eq_true rfl) ?_
    simp (maxSteps := 2000000) only [go, stp, inS, ↓reduceIte, Bool.false_eq_true, Nat.reduceLT, Nat.reduceEqDiff, Nat.reduceAdd, ldI, ldL, ldA, st1, st2, okS, List.getElem?_cons_zero, List.getElem?_cons_succ, List.length_cons, List.length_nil, List.set_cons_zero, List.set_cons_succ, callP, callF, popN, ct, Value.category, cI, List.getD_cons_zero, List.getD_cons_succ, and_self, and_true, true_and, Nat.zero_le, Nat.reduceLeDiff, Nat.add_zero, Nat.zero_add, List.nil_append, List.cons_append, Option.toList_some, Option.toList_none, List.append_nil, hset_ss, true_or, or_true, eq_self, beq_self_eq_true, List.drop_succ_cons, List.drop_zero, swT, swL, hset_ap, not_true_eq_false, not_false_eq_true, true_implies, false_implies, implies_true, Int32.reduceLE, Int32.reduceLT, Int32.reduceAdd, Int32.reduceSub, Int32.reduceOfInt, Int32.reduceToNatClampNeg, i10, i01, Nat.add_left_cancel_iff, Nat.left_eq_add, Nat.add_eq_left, cdX1_fire, F1, (show h' t = _ from hE')]
    rw [b_ask0 dn (show rule < 32 by omega)]
    have := hq h' fi' hE' hf hO
    exact ⟨fun c => by simpa [c] using this, fun c => by simpa [show bt dn rule = true by simpa using c] using this⟩
  refine ok_of kMX1_fire kCX1_fire (Nat.le_of_ble_eq_true rfl) (fun z => ?_)
  change A z _ _ 0 0 _ 0 [some (.ref t), some (.int (nI rule)), some (.int rows)] [] _
  refine go_ok okF1 (C := cdX1_fire) (by rfl) [16] 40 (by exact Nat.le_of_ble_eq_true rfl) ?_
  simp (maxSteps := 2000000) only [go, stp, inS, ↓reduceIte, Bool.false_eq_true, Nat.reduceLT, Nat.reduceEqDiff, Nat.reduceAdd, ldI, ldL, ldA, st1, st2, okS, List.getElem?_cons_zero, List.getElem?_cons_succ, List.length_cons, List.length_nil, List.set_cons_zero, List.set_cons_succ, callP, callF, popN, ct, Value.category, cI, List.getD_cons_zero, List.getD_cons_succ, and_self, and_true, true_and, Nat.zero_le, Nat.reduceLeDiff, Nat.add_zero, Nat.zero_add, List.nil_append, List.cons_append, Option.toList_some, Option.toList_none, List.append_nil, hset_ss, true_or, or_true, eq_self, beq_self_eq_true, List.drop_succ_cons, List.drop_zero, swT, swL, hset_ap, not_true_eq_false, not_false_eq_true, true_implies, false_implies, implies_true, Int32.reduceLE, Int32.reduceLT, Int32.reduceAdd, Int32.reduceSub, Int32.reduceOfInt, Int32.reduceToNatClampNeg, i10, i01, Nat.add_left_cancel_iff, Nat.left_eq_add, Nat.add_eq_left, cdX1_fire, F1, hE]
  refine ⟨fun c => tail z h fi hE (fun i hi => by simp [c]) sOff.rf, fun c => tail z _ _ (hset_s _ _ _) (fun i hi => ?_) (sOff.rf.set (by omega) (by omega))⟩
  rw [b_or, b_pw rule (by omega) i hi]
  simp [c]
set_option maxRecDepth 100000 in
set_option maxHeartbeats 400000 in
theorem E_noOf {n : Nat} {h : aH} {Q : aQ} {t tb : Nat} {al dn fi v : Int32} (hE : EnO h t tb al dn fi) (hq : Q (some (.int (al &&& (v ^^^ (-1)) &&& (((v.toUInt32 >>> ((16 : Int32).toUInt32 &&& Int32.toUInt32 31)).toInt32) ^^^ (-1))))) n h) : Ok 10 [.ref t, .int v] n h Q := by
  unfold EnO at hE
  refine ok_of kMX1_noOf kCX1_noOf (Nat.le_of_ble_eq_true rfl) (fun z => ?_)
  change A z _ _ 0 0 _ 0 [some (.ref t), some (.int v)] [] _
  refine go_ok okF1 (C := cdX1_noOf) (by rfl) [] 40 (by exact Nat.le_of_ble_eq_true rfl) ?_
  simp (maxSteps := 2000000) only [go, stp, inS, ↓reduceIte, Bool.false_eq_true, Nat.reduceLT, Nat.reduceEqDiff, Nat.reduceAdd, ldI, ldL, ldA, st1, st2, okS, List.getElem?_cons_zero, List.getElem?_cons_succ, List.length_cons, List.length_nil, List.set_cons_zero, List.set_cons_succ, callP, callF, popN, ct, Value.category, cI, List.getD_cons_zero, List.getD_cons_succ, and_self, and_true, true_and, Nat.zero_le, Nat.reduceLeDiff, Nat.add_zero, Nat.zero_add, List.nil_append, List.cons_append, Option.toList_some, Option.toList_none, List.append_nil, hset_ss, true_or, or_true, eq_self, beq_self_eq_true, List.drop_succ_cons, List.drop_zero, swT, swL, hset_ap, not_true_eq_false, not_false_eq_true, true_implies, false_implies, implies_true, Int32.reduceLE, Int32.reduceLT, Int32.reduceAdd, Int32.reduceSub, Int32.reduceOfInt, Int32.reduceToNatClampNeg, i10, i01, Nat.add_left_cancel_iff, Nat.left_eq_add, Nat.add_eq_left, cdX1_noOf, F1, hE]
  exact hq
def vT (d : Bool) (x : Nat) : Nat := if x = 2 then (if d = true then 1 else 2) else 1 - x
def vQ (d : Bool) (x : Nat) : Nat := if x = 2 then (if d = true then 0 else 1) else 0
def vB (d : Bool) (x y : Nat) : Nat := if ((x = 1 ∧ y = 2) ∨ (x = 2 ∧ y = 1)) ∧ d = true then 1 else if x = 0 ∨ y = 0 then 0 else if x = 2 ∨ y = 2 then 2 else 1
def vE (d : Bool) (x y : Nat) : Nat := if ((x = 2 ∧ y = 0) ∨ (x = 0 ∧ y = 2)) ∧ d = true then 0 else if x = 1 ∨ y = 1 then 1 else if x = 2 ∨ y = 2 then 2 else 0
theorem vT_le (d : Bool) (x : Nat) (h : x ≤ 2) : vT d x ≤ 2 := by unfold vT; split <;> (try split) <;> omega
theorem vQ_le (d : Bool) (x : Nat) : vQ d x ≤ 2 := by unfold vQ; split <;> (try split) <;> omega
theorem vB_le (d : Bool) (x y : Nat) : vB d x y ≤ 2 := by unfold vB; split <;> (try split) <;> (try split) <;> omega
theorem vE_le (d : Bool) (x y : Nat) : vE d x y ≤ 2 := by unfold vE; split <;> (try split) <;> (try split) <;> omega
section EV
variable {n : Nat} {h : aH} {Q : aQ} {t tb : Nat} {dn fi : Int32} {nr : Nat} {V V2 : Nat → Nat}
theorem mB_nz {m : Int32} {nr : Nat} {P : Nat → Prop} [DecidablePred P] (hn : nr ≤ 16) (hm : ∀ i, i < 32 → bt m i = decide (i < nr ∧ P i)) : (¬ m = 0) ↔ ∃ r, r < nr ∧ P r := by
  rw [b_ne0]
  constructor
  · rintro ⟨i, hi, hb⟩
    rw [hm i hi] at hb
    exact ⟨i, of_decide_eq_true hb⟩
  · rintro ⟨r, h1, h2⟩
    exact ⟨r, by omega, by rw [hm r (by omega)]; exact decide_eq_true ⟨h1, h2⟩⟩
set_option maxRecDepth 100000 in
set_option maxHeartbeats 400000 in
theorem E_turned (hE : EnO h t tb (alm nr) dn fi) (hn : nr ≤ 16) (hV : ∀ r, r < nr → V r ≤ 2)
    (hq : ∀ h' fi', EnO h' t tb (alm nr) dn fi' → firS fi fi' 0 (∃ r, r < nr ∧ V r = 2) → sOff h h' t (t + 1) → Q (some (.int (enc nr (fun r => vT (bt dn 0) (V r))))) n h') : Ok 11 [.ref t, .int (enc nr V)] n h Q := by
  have hE0 := hE
  unfold EnO at hE
  refine ok_of kMX1_turned kCX1_turned (Nat.le_of_ble_eq_true rfl) (fun z => ?_)
  change A z _ _ 0 0 _ 0 [some (.ref t), some (.int (enc nr V)), none] [] _
  refine go_ok okF1 (C := cdX1_turned) (by rfl) [] 40 (by exact Nat.le_of_ble_eq_true rfl) ?_
  simp (maxSteps := 2000000) only [go, stp, inS, ↓reduceIte, Bool.false_eq_true, Nat.reduceLT, Nat.reduceEqDiff, Nat.reduceAdd, ldI, ldL, ldA, st1, st2, okS, List.getElem?_cons_zero, List.getElem?_cons_succ, List.length_cons, List.length_nil, List.set_cons_zero, List.set_cons_succ, callP, callF, popN, ct, Value.category, cI, List.getD_cons_zero, List.getD_cons_succ, and_self, and_true, true_and, Nat.zero_le, Nat.reduceLeDiff, Nat.add_zero, Nat.zero_add, List.nil_append, List.cons_append, Option.toList_some, Option.toList_none, List.append_nil, hset_ss, true_or, or_true, eq_self, beq_self_eq_true, List.drop_succ_cons, List.drop_zero, swT, swL, hset_ap, not_true_eq_false, not_false_eq_true, true_implies, false_implies, implies_true, Int32.reduceLE, Int32.reduceLT, Int32.reduceAdd, Int32.reduceSub, Int32.reduceOfInt, Int32.reduceToNatClampNeg, i10, i01, Nat.add_left_cancel_iff, Nat.left_eq_add, Nat.add_eq_left, cdX1_turned, F1, hE]
  refine E_fire (rule := 0) hE0 (by omega) (fun h' fi' hE' hf hO => ?_)
  rw [mB_nz hn (fun i hi => b_nE hn)] at hf
  refine go_ok okF1 (C := cdX1_turned) (by rfl) [] 40 (by exact Nat.le_of_ble_eq_true rfl) ?_
  simp (maxSteps := 2000000) only [go, stp, inS, ↓reduceIte, Bool.false_eq_true, Nat.reduceLT, Nat.reduceEqDiff, Nat.reduceAdd, ldI, ldL, ldA, st1, st2, okS, List.getElem?_cons_zero, List.getElem?_cons_succ, List.length_cons, List.length_nil, List.set_cons_zero, List.set_cons_succ, callP, callF, popN, ct, Value.category, cI, List.getD_cons_zero, List.getD_cons_succ, and_self, and_true, true_and, Nat.zero_le, Nat.reduceLeDiff, Nat.add_zero, Nat.zero_add, List.nil_append, List.cons_append, Option.toList_some, Option.toList_none, List.append_nil, hset_ss, true_or, or_true, eq_self, beq_self_eq_true, List.drop_succ_cons, List.drop_zero, swT, swL, hset_ap, not_true_eq_false, not_false_eq_true, true_implies, false_implies, implies_true, Int32.reduceLE, Int32.reduceLT, Int32.reduceAdd, Int32.reduceSub, Int32.reduceOfInt, Int32.reduceToNatClampNeg, i10, i01, Nat.add_left_cancel_iff, Nat.left_eq_add, Nat.add_eq_left, cdX1_turned, F1, (show h' t = _ from hE')]
  refine E_noOf hE' ?_
  refine go_ok okF1 (C := cdX1_turned) (by rfl) [] 40 (by exact Nat.le_of_ble_eq_true rfl) ?_
  simp (maxSteps := 2000000) only [go, stp, inS, ↓reduceIte, Bool.false_eq_true, Nat.reduceLT, Nat.reduceEqDiff, Nat.reduceAdd, ldI, ldL, ldA, st1, st2, okS, List.getElem?_cons_zero, List.getElem?_cons_succ, List.length_cons, List.length_nil, List.set_cons_zero, List.set_cons_succ, callP, callF, popN, ct, Value.category, cI, List.getD_cons_zero, List.getD_cons_succ, and_self, and_true, true_and, Nat.zero_le, Nat.reduceLeDiff, Nat.add_zero, Nat.zero_add, List.nil_append, List.cons_append, Option.toList_some, Option.toList_none, List.append_nil, hset_ss, true_or, or_true, eq_self, beq_self_eq_true, List.drop_succ_cons, List.drop_zero, swT, swL, hset_ap, not_true_eq_false, not_false_eq_true, true_implies, false_implies, implies_true, Int32.reduceLE, Int32.reduceLT, Int32.reduceAdd, Int32.reduceSub, Int32.reduceOfInt, Int32.reduceToNatClampNeg, i10, i01, Nat.add_left_cancel_iff, Nat.left_eq_add, Nat.add_eq_left, cdX1_turned, F1]
  have := hq h' fi' hE' hf hO
  rw [← enc_of (V := fun r => vT (bt dn 0) (V r)) ?_ ?_ hn] at this
  exact this
  · intro i hi
    rw [b_or, b_noE hn hV hi, b_ite, b_nE hn, b_0]
    by_cases hd : bt dn 0 = true
    · by_cases hr : i < nr
      · have := hV i hr
        rcases (show V i = 0 ∨ V i = 1 ∨ V i = 2 by omega) with e | e | e <;> simp [hd, hr, e, vT]
      · simp [hr]
    · by_cases hr : i < nr
      · have := hV i hr
        rcases (show V i = 0 ∨ V i = 1 ∨ V i = 2 by omega) with e | e | e <;> simp [hd, hr, e, vT]
      · simp [hr]
  · intro i hi
    rw [b_and, b_not _ (by omega), b_ite, b_nE hn, b_0]
    by_cases hd : bt dn 0 = true
    · by_cases hr : i < nr
      · have := hV i hr
        rcases (show V i = 0 ∨ V i = 1 ∨ V i = 2 by omega) with e | e | e <;> simp [hd, hr, e, vT]
      · simp [hr]
    · by_cases hr : i < nr
      · have := hV i hr
        rcases (show V i = 0 ∨ V i = 1 ∨ V i = 2 by omega) with e | e | e <;> simp [hd, hr, e, vT]
      · simp [hr]
set_option maxRecDepth 100000 in
set_option maxHeartbeats 400000 in
theorem E_asked {cmp : Bool} (hE : EnO h t tb (alm nr) dn fi) (hn : nr ≤ 16) (hV : ∀ r, r < nr → V r ≤ 2)
    (hq : ∀ h' fi', EnO h' t tb (alm nr) dn fi' → firS fi fi' 5 (cmp = true ∧ ∃ r, r < nr ∧ V r = 2) → sOff h h' t (t + 1) → Q (some (.int (enc nr (fun r => vQ (cmp && bt dn 5) (V r))))) n h') : Ok 12 [.ref t, .int (enc nr V), .int (if cmp = true then 1 else 0)] n h Q := by
  have hE0 := hE
  unfold EnO at hE
  have tail : ∀ z h' fi' (odd : Int32), EnO h' t tb (alm nr) dn fi' → firS fi fi' 5 (cmp = true ∧ ∃ r, r < nr ∧ V r = 2) → sOff h h' t (t + 1) → (∀ i, i < 32 → bt odd i = (cmp && bt dn 5 && decide (i < nr ∧ V i = 2))) →
      A z 12 n 0 0 h' 17 [some (.ref t), some (.int (enc nr V)), some (.int (if cmp = true then 1 else 0)), none] [.int odd] Q := by
    intro z h' fi' odd hE' hf hO ho
    refine go_ok okF1 (C := cdX1_asked) (by rfl) [] 40 (by exact Nat.le_of_ble_eq_true rfl) ?_
    simp (maxSteps := 2000000) only [go, stp, inS, ↓reduceIte, Bool.false_eq_true, Nat.reduceLT, Nat.reduceEqDiff, Nat.reduceAdd, ldI, ldL, ldA, st1, st2, okS, List.getElem?_cons_zero, List.getElem?_cons_succ, List.length_cons, List.length_nil, List.set_cons_zero, List.set_cons_succ, callP, callF, popN, ct, Value.category, cI, List.getD_cons_zero, List.getD_cons_succ, and_self, and_true, true_and, Nat.zero_le, Nat.reduceLeDiff, Nat.add_zero, Nat.zero_add, List.nil_append, List.cons_append, Option.toList_some, Option.toList_none, List.append_nil, hset_ss, true_or, or_true, eq_self, beq_self_eq_true, List.drop_succ_cons, List.drop_zero, swT, swL, hset_ap, not_true_eq_false, not_false_eq_true, true_implies, false_implies, implies_true, Int32.reduceLE, Int32.reduceLT, Int32.reduceAdd, Int32.reduceSub, Int32.reduceOfInt, Int32.reduceToNatClampNeg, i10, i01, Nat.add_left_cancel_iff, Nat.left_eq_add, Nat.add_eq_left, cdX1_asked, F1]
    have := hq h' fi' hE' hf hO
    rw [← enc_of (V := fun r => vQ (cmp && bt dn 5) (V r)) (y := (((enc nr V).toUInt32 >>> ((16 : Int32).toUInt32 &&& Int32.toUInt32 31)).toInt32) &&& (odd ^^^ (-1))) (w := 0) ?_ ?_ hn] at this
    exact this
    · intro i hi
      rw [b_and, b_not _ hi, b_nE hn, ho i hi]
      by_cases hr : i < nr
      · have := hV i hr
        rcases (show V i = 0 ∨ V i = 1 ∨ V i = 2 by omega) with e | e | e <;> cases cmp <;> cases bt dn 5 <;> simp [hr, e, vQ]
      · simp [hr]
    · intro i hi
      rw [b_0]
      by_cases hr : i < nr
      · have : vQ (cmp && bt dn 5) (V i) ≤ 1 := by unfold vQ; split <;> (try split) <;> omega
        symm
        rw [decide_eq_false]
        omega
      · simp [hr]
  refine ok_of kMX1_asked kCX1_asked (Nat.le_of_ble_eq_true rfl) (fun z => ?_)
  change A z _ _ 0 0 _ 0 [some (.ref t), some (.int (enc nr V)), some (.int (if cmp = true then 1 else 0)), none] [] _
  refine go_ok okF1 (C := cdX1_asked) (by rfl) [17] 40 (by exact Nat.le_of_ble_eq_true rfl) ?_
  simp (maxSteps := 2000000) only [go, stp, inS, ↓reduceIte, Bool.false_eq_true, Nat.reduceLT, Nat.reduceEqDiff, Nat.reduceAdd, ldI, ldL, ldA, st1, st2, okS, List.getElem?_cons_zero, List.getElem?_cons_succ, List.length_cons, List.length_nil, List.set_cons_zero, List.set_cons_succ, callP, callF, popN, ct, Value.category, cI, List.getD_cons_zero, List.getD_cons_succ, and_self, and_true, true_and, Nat.zero_le, Nat.reduceLeDiff, Nat.add_zero, Nat.zero_add, List.nil_append, List.cons_append, Option.toList_some, Option.toList_none, List.append_nil, hset_ss, true_or, or_true, eq_self, beq_self_eq_true, List.drop_succ_cons, List.drop_zero, swT, swL, hset_ap, not_true_eq_false, not_false_eq_true, true_implies, false_implies, implies_true, Int32.reduceLE, Int32.reduceLT, Int32.reduceAdd, Int32.reduceSub, Int32.reduceOfInt, Int32.reduceToNatClampNeg, i10, i01, Nat.add_left_cancel_iff, Nat.left_eq_add, Nat.add_eq_left, cdX1_asked, F1, hE, ib0]
  refine ⟨fun c => tail z h fi 0 hE0 (fun i hi => by simp [c]) sOff.rf (fun i hi => by rw [b_0]; simp [c]), fun c => ?_⟩
  have c : cmp = true := by simpa using c
  refine E_fire (rule := 5) hE0 (by omega) (fun h' fi' hE' hf hO => ?_)
  rw [mB_nz hn (fun i hi => b_nE hn)] at hf
  refine go_ok okF1 (C := cdX1_asked) (by rfl) [17] 40 (by exact Nat.le_of_ble_eq_true rfl) ?_
  simp (maxSteps := 2000000) only [go, stp, inS, ↓reduceIte, Bool.false_eq_true, Nat.reduceLT, Nat.reduceEqDiff, Nat.reduceAdd, ldI, ldL, ldA, st1, st2, okS, List.getElem?_cons_zero, List.getElem?_cons_succ, List.length_cons, List.length_nil, List.set_cons_zero, List.set_cons_succ, callP, callF, popN, ct, Value.category, cI, List.getD_cons_zero, List.getD_cons_succ, and_self, and_true, true_and, Nat.zero_le, Nat.reduceLeDiff, Nat.add_zero, Nat.zero_add, List.nil_append, List.cons_append, Option.toList_some, Option.toList_none, List.append_nil, hset_ss, true_or, or_true, eq_self, beq_self_eq_true, List.drop_succ_cons, List.drop_zero, swT, swL, hset_ap, not_true_eq_false, not_false_eq_true, true_implies, false_implies, implies_true, Int32.reduceLE, Int32.reduceLT, Int32.reduceAdd, Int32.reduceSub, Int32.reduceOfInt, Int32.reduceToNatClampNeg, i10, i01, Nat.add_left_cancel_iff, Nat.left_eq_add, Nat.add_eq_left, cdX1_asked, F1]
  refine tail z h' fi' _ hE' (fun i hi => by rw [hf i hi]; simp [c]) hO (fun i hi => ?_)
  rw [b_ite, b_nE hn, b_0]
  simp only [c]
  cases bt dn 5 <;> simp
set_option maxRecDepth 100000 in
set_option maxHeartbeats 400000 in
theorem E_both (hE : EnO h t tb (alm nr) dn fi) (hn : nr ≤ 16) (hV : ∀ r, r < nr → V r ≤ 2) (hV2 : ∀ r, r < nr → V2 r ≤ 2)
    (hq : ∀ h' fi', EnO h' t tb (alm nr) dn fi' → firS fi fi' 2 (∃ r, r < nr ∧ ((V r = 1 ∧ V2 r = 2) ∨ (V r = 2 ∧ V2 r = 1))) → sOff h h' t (t + 1) → Q (some (.int (enc nr (fun r => vB (bt dn 2) (V r) (V2 r))))) n h') : Ok 13 [.ref t, .int (enc nr V), .int (enc nr V2)] n h Q := by
  have hE0 := hE
  unfold EnO at hE
  refine ok_of kMX1_both kCX1_both (Nat.le_of_ble_eq_true rfl) (fun z => ?_)
  change A z _ _ 0 0 _ 0 [some (.ref t), some (.int (enc nr V)), some (.int (enc nr V2)), none, none, none] [] _
  refine go_ok okF1 (C := cdX1_both) (by rfl) [] 60 (by exact Nat.le_of_ble_eq_true rfl) ?_
  simp (maxSteps := 2000000) only [go, stp, inS, ↓reduceIte, Bool.false_eq_true, Nat.reduceLT, Nat.reduceEqDiff, Nat.reduceAdd, ldI, ldL, ldA, st1, st2, okS, List.getElem?_cons_zero, List.getElem?_cons_succ, List.length_cons, List.length_nil, List.set_cons_zero, List.set_cons_succ, callP, callF, popN, ct, Value.category, cI, List.getD_cons_zero, List.getD_cons_succ, and_self, and_true, true_and, Nat.zero_le, Nat.reduceLeDiff, Nat.add_zero, Nat.zero_add, List.nil_append, List.cons_append, Option.toList_some, Option.toList_none, List.append_nil, hset_ss, true_or, or_true, eq_self, beq_self_eq_true, List.drop_succ_cons, List.drop_zero, swT, swL, hset_ap, not_true_eq_false, not_false_eq_true, true_implies, false_implies, implies_true, Int32.reduceLE, Int32.reduceLT, Int32.reduceAdd, Int32.reduceSub, Int32.reduceOfInt, Int32.reduceToNatClampNeg, i10, i01, Nat.add_left_cancel_iff, Nat.left_eq_add, Nat.add_eq_left, cdX1_both, F1, hE]
  refine E_noOf hE0 ?_
  refine go_ok okF1 (C := cdX1_both) (by rfl) [] 60 (by exact Nat.le_of_ble_eq_true rfl) ?_
  simp (maxSteps := 2000000) only [go, stp, inS, ↓reduceIte, Bool.false_eq_true, Nat.reduceLT, Nat.reduceEqDiff, Nat.reduceAdd, ldI, ldL, ldA, st1, st2, okS, List.getElem?_cons_zero, List.getElem?_cons_succ, List.length_cons, List.length_nil, List.set_cons_zero, List.set_cons_succ, callP, callF, popN, ct, Value.category, cI, List.getD_cons_zero, List.getD_cons_succ, and_self, and_true, true_and, Nat.zero_le, Nat.reduceLeDiff, Nat.add_zero, Nat.zero_add, List.nil_append, List.cons_append, Option.toList_some, Option.toList_none, List.append_nil, hset_ss, true_or, or_true, eq_self, beq_self_eq_true, List.drop_succ_cons, List.drop_zero, swT, swL, hset_ap, not_true_eq_false, not_false_eq_true, true_implies, false_implies, implies_true, Int32.reduceLE, Int32.reduceLT, Int32.reduceAdd, Int32.reduceSub, Int32.reduceOfInt, Int32.reduceToNatClampNeg, i10, i01, Nat.add_left_cancel_iff, Nat.left_eq_add, Nat.add_eq_left, cdX1_both, F1, hE]
  refine E_noOf hE0 ?_
  refine go_ok okF1 (C := cdX1_both) (by rfl) [] 60 (by exact Nat.le_of_ble_eq_true rfl) ?_
  simp (maxSteps := 2000000) only [go, stp, inS, ↓reduceIte, Bool.false_eq_true, Nat.reduceLT, Nat.reduceEqDiff, Nat.reduceAdd, ldI, ldL, ldA, st1, st2, okS, List.getElem?_cons_zero, List.getElem?_cons_succ, List.length_cons, List.length_nil, List.set_cons_zero, List.set_cons_succ, callP, callF, popN, ct, Value.category, cI, List.getD_cons_zero, List.getD_cons_succ, and_self, and_true, true_and, Nat.zero_le, Nat.reduceLeDiff, Nat.add_zero, Nat.zero_add, List.nil_append, List.cons_append, Option.toList_some, Option.toList_none, List.append_nil, hset_ss, true_or, or_true, eq_self, beq_self_eq_true, List.drop_succ_cons, List.drop_zero, swT, swL, hset_ap, not_true_eq_false, not_false_eq_true, true_implies, false_implies, implies_true, Int32.reduceLE, Int32.reduceLT, Int32.reduceAdd, Int32.reduceSub, Int32.reduceOfInt, Int32.reduceToNatClampNeg, i10, i01, Nat.add_left_cancel_iff, Nat.left_eq_add, Nat.add_eq_left, cdX1_both, F1, hE]
  refine E_fire (rule := 2) hE0 (by omega) (fun h' fi' hE' hf hO => ?_)
  have hm : ∀ i, i < 32 → bt (((enc nr V &&& 65535) &&& (((enc nr V2).toUInt32 >>> ((16 : Int32).toUInt32 &&& Int32.toUInt32 31)).toInt32)) ||| ((((enc nr V).toUInt32 >>> ((16 : Int32).toUInt32 &&& Int32.toUInt32 31)).toInt32) &&& (enc nr V2 &&& 65535))) i = decide (i < nr ∧ ((V i = 1 ∧ V2 i = 2) ∨ (V i = 2 ∧ V2 i = 1))) := by
    intro i hi
    rw [b_or, b_and (enc nr V &&& 65535), b_and _ (enc nr V2 &&& 65535), b_yE hn, b_nE hn, b_nE hn, b_yE hn]
    by_cases hr : i < nr <;> simp [hr]
  rw [mB_nz hn hm] at hf
  refine go_ok okF1 (C := cdX1_both) (by rfl) [] 60 (by exact Nat.le_of_ble_eq_true rfl) ?_
  simp (maxSteps := 2000000) only [go, stp, inS, ↓reduceIte, Bool.false_eq_true, Nat.reduceLT, Nat.reduceEqDiff, Nat.reduceAdd, ldI, ldL, ldA, st1, st2, okS, List.getElem?_cons_zero, List.getElem?_cons_succ, List.length_cons, List.length_nil, List.set_cons_zero, List.set_cons_succ, callP, callF, popN, ct, Value.category, cI, List.getD_cons_zero, List.getD_cons_succ, and_self, and_true, true_and, Nat.zero_le, Nat.reduceLeDiff, Nat.add_zero, Nat.zero_add, List.nil_append, List.cons_append, Option.toList_some, Option.toList_none, List.append_nil, hset_ss, true_or, or_true, eq_self, beq_self_eq_true, List.drop_succ_cons, List.drop_zero, swT, swL, hset_ap, not_true_eq_false, not_false_eq_true, true_implies, false_implies, implies_true, Int32.reduceLE, Int32.reduceLT, Int32.reduceAdd, Int32.reduceSub, Int32.reduceOfInt, Int32.reduceToNatClampNeg, i10, i01, Nat.add_left_cancel_iff, Nat.left_eq_add, Nat.add_eq_left, cdX1_both, F1, (show h' t = _ from hE')]
  have := hq h' fi' hE' hf hO
  rw [← enc_of (V := fun r => vB (bt dn 2) (V r) (V2 r)) ?_ ?_ hn] at this
  exact this
  · intro i hi
    rw [b_or, b_ite, hm i hi, b_0, b_and, b_yE hn, b_yE hn]
    by_cases hr : i < nr
    · have := hV i hr
      have := hV2 i hr
      rcases (show V i = 0 ∨ V i = 1 ∨ V i = 2 by omega) with e | e | e <;> rcases (show V2 i = 0 ∨ V2 i = 1 ∨ V2 i = 2 by omega) with e2 | e2 | e2 <;> cases bt dn 2 <;> simp [hr, e, e2, vB]
    · simp [hr]
  · intro i hi
    rw [b_and, b_and, b_and, b_not _ (by omega), b_not _ (by omega), b_not _ (by omega), b_or, b_noE hn hV (by omega), b_noE hn hV2 (by omega), b_ite, hm i (by omega), b_0, b_and, b_yE hn, b_yE hn, b_alm (by omega) (by omega)]
    by_cases hr : i < nr
    · have := hV i hr
      have := hV2 i hr
      rcases (show V i = 0 ∨ V i = 1 ∨ V i = 2 by omega) with e | e | e <;> rcases (show V2 i = 0 ∨ V2 i = 1 ∨ V2 i = 2 by omega) with e2 | e2 | e2 <;> cases bt dn 2 <;> simp [hr, e, e2, vB]
    · simp [hr]
set_option maxRecDepth 100000 in
set_option maxHeartbeats 400000 in
theorem E_either (hE : EnO h t tb (alm nr) dn fi) (hn : nr ≤ 16) (hV : ∀ r, r < nr → V r ≤ 2) (hV2 : ∀ r, r < nr → V2 r ≤ 2)
    (hq : ∀ h' fi', EnO h' t tb (alm nr) dn fi' → firS fi fi' 3 (∃ r, r < nr ∧ ((V r = 2 ∧ V2 r = 0) ∨ (V r = 0 ∧ V2 r = 2))) → sOff h h' t (t + 1) → Q (some (.int (enc nr (fun r => vE (bt dn 3) (V r) (V2 r))))) n h') : Ok 14 [.ref t, .int (enc nr V), .int (enc nr V2)] n h Q := by
  have hE0 := hE
  unfold EnO at hE
  refine ok_of kMX1_either kCX1_either (Nat.le_of_ble_eq_true rfl) (fun z => ?_)
  change A z _ _ 0 0 _ 0 [some (.ref t), some (.int (enc nr V)), some (.int (enc nr V2)), none, none, none] [] _
  refine go_ok okF1 (C := cdX1_either) (by rfl) [] 60 (by exact Nat.le_of_ble_eq_true rfl) ?_
  simp (maxSteps := 2000000) only [go, stp, inS, ↓reduceIte, Bool.false_eq_true, Nat.reduceLT, Nat.reduceEqDiff, Nat.reduceAdd, ldI, ldL, ldA, st1, st2, okS, List.getElem?_cons_zero, List.getElem?_cons_succ, List.length_cons, List.length_nil, List.set_cons_zero, List.set_cons_succ, callP, callF, popN, ct, Value.category, cI, List.getD_cons_zero, List.getD_cons_succ, and_self, and_true, true_and, Nat.zero_le, Nat.reduceLeDiff, Nat.add_zero, Nat.zero_add, List.nil_append, List.cons_append, Option.toList_some, Option.toList_none, List.append_nil, hset_ss, true_or, or_true, eq_self, beq_self_eq_true, List.drop_succ_cons, List.drop_zero, swT, swL, hset_ap, not_true_eq_false, not_false_eq_true, true_implies, false_implies, implies_true, Int32.reduceLE, Int32.reduceLT, Int32.reduceAdd, Int32.reduceSub, Int32.reduceOfInt, Int32.reduceToNatClampNeg, i10, i01, Nat.add_left_cancel_iff, Nat.left_eq_add, Nat.add_eq_left, cdX1_either, F1, hE]
  refine E_noOf hE0 ?_
  refine go_ok okF1 (C := cdX1_either) (by rfl) [] 60 (by exact Nat.le_of_ble_eq_true rfl) ?_
  simp (maxSteps := 2000000) only [go, stp, inS, ↓reduceIte, Bool.false_eq_true, Nat.reduceLT, Nat.reduceEqDiff, Nat.reduceAdd, ldI, ldL, ldA, st1, st2, okS, List.getElem?_cons_zero, List.getElem?_cons_succ, List.length_cons, List.length_nil, List.set_cons_zero, List.set_cons_succ, callP, callF, popN, ct, Value.category, cI, List.getD_cons_zero, List.getD_cons_succ, and_self, and_true, true_and, Nat.zero_le, Nat.reduceLeDiff, Nat.add_zero, Nat.zero_add, List.nil_append, List.cons_append, Option.toList_some, Option.toList_none, List.append_nil, hset_ss, true_or, or_true, eq_self, beq_self_eq_true, List.drop_succ_cons, List.drop_zero, swT, swL, hset_ap, not_true_eq_false, not_false_eq_true, true_implies, false_implies, implies_true, Int32.reduceLE, Int32.reduceLT, Int32.reduceAdd, Int32.reduceSub, Int32.reduceOfInt, Int32.reduceToNatClampNeg, i10, i01, Nat.add_left_cancel_iff, Nat.left_eq_add, Nat.add_eq_left, cdX1_either, F1, hE]
  refine E_noOf hE0 ?_
  refine go_ok okF1 (C := cdX1_either) (by rfl) [] 60 (by exact Nat.le_of_ble_eq_true rfl) ?_
  simp (maxSteps := 2000000) only [go, stp, inS, ↓reduceIte, Bool.false_eq_true, Nat.reduceLT, Nat.reduceEqDiff, Nat.reduceAdd, ldI, ldL, ldA, st1, st2, okS, List.getElem?_cons_zero, List.getElem?_cons_succ, List.length_cons, List.length_nil, List.set_cons_zero, List.set_cons_succ, callP, callF, popN, ct, Value.category, cI, List.getD_cons_zero, List.getD_cons_succ, and_self, and_true, true_and, Nat.zero_le, Nat.reduceLeDiff, Nat.add_zero, Nat.zero_add, List.nil_append, List.cons_append, Option.toList_some, Option.toList_none, List.append_nil, hset_ss, true_or, or_true, eq_self, beq_self_eq_true, List.drop_succ_cons, List.drop_zero, swT, swL, hset_ap, not_true_eq_false, not_false_eq_true, true_implies, false_implies, implies_true, Int32.reduceLE, Int32.reduceLT, Int32.reduceAdd, Int32.reduceSub, Int32.reduceOfInt, Int32.reduceToNatClampNeg, i10, i01, Nat.add_left_cancel_iff, Nat.left_eq_add, Nat.add_eq_left, cdX1_either, F1, hE]
  refine E_noOf hE0 ?_
  refine go_ok okF1 (C := cdX1_either) (by rfl) [] 60 (by exact Nat.le_of_ble_eq_true rfl) ?_
  simp (maxSteps := 2000000) only [go, stp, inS, ↓reduceIte, Bool.false_eq_true, Nat.reduceLT, Nat.reduceEqDiff, Nat.reduceAdd, ldI, ldL, ldA, st1, st2, okS, List.getElem?_cons_zero, List.getElem?_cons_succ, List.length_cons, List.length_nil, List.set_cons_zero, List.set_cons_succ, callP, callF, popN, ct, Value.category, cI, List.getD_cons_zero, List.getD_cons_succ, and_self, and_true, true_and, Nat.zero_le, Nat.reduceLeDiff, Nat.add_zero, Nat.zero_add, List.nil_append, List.cons_append, Option.toList_some, Option.toList_none, List.append_nil, hset_ss, true_or, or_true, eq_self, beq_self_eq_true, List.drop_succ_cons, List.drop_zero, swT, swL, hset_ap, not_true_eq_false, not_false_eq_true, true_implies, false_implies, implies_true, Int32.reduceLE, Int32.reduceLT, Int32.reduceAdd, Int32.reduceSub, Int32.reduceOfInt, Int32.reduceToNatClampNeg, i10, i01, Nat.add_left_cancel_iff, Nat.left_eq_add, Nat.add_eq_left, cdX1_either, F1, hE]
  refine E_noOf hE0 ?_
  refine go_ok okF1 (C := cdX1_either) (by rfl) [] 60 (by exact Nat.le_of_ble_eq_true rfl) ?_
  simp (maxSteps := 2000000) only [go, stp, inS, ↓reduceIte, Bool.false_eq_true, Nat.reduceLT, Nat.reduceEqDiff, Nat.reduceAdd, ldI, ldL, ldA, st1, st2, okS, List.getElem?_cons_zero, List.getElem?_cons_succ, List.length_cons, List.length_nil, List.set_cons_zero, List.set_cons_succ, callP, callF, popN, ct, Value.category, cI, List.getD_cons_zero, List.getD_cons_succ, and_self, and_true, true_and, Nat.zero_le, Nat.reduceLeDiff, Nat.add_zero, Nat.zero_add, List.nil_append, List.cons_append, Option.toList_some, Option.toList_none, List.append_nil, hset_ss, true_or, or_true, eq_self, beq_self_eq_true, List.drop_succ_cons, List.drop_zero, swT, swL, hset_ap, not_true_eq_false, not_false_eq_true, true_implies, false_implies, implies_true, Int32.reduceLE, Int32.reduceLT, Int32.reduceAdd, Int32.reduceSub, Int32.reduceOfInt, Int32.reduceToNatClampNeg, i10, i01, Nat.add_left_cancel_iff, Nat.left_eq_add, Nat.add_eq_left, cdX1_either, F1, hE]
  refine E_fire (rule := 3) hE0 (by omega) (fun h' fi' hE' hf hO => ?_)
  have hm : ∀ i, i < 32 → bt (((((enc nr V).toUInt32 >>> ((16 : Int32).toUInt32 &&& Int32.toUInt32 31)).toInt32) &&& (alm nr &&& (enc nr V2 ^^^ (-1)) &&& ((((enc nr V2).toUInt32 >>> ((16 : Int32).toUInt32 &&& Int32.toUInt32 31)).toInt32) ^^^ (-1)))) ||| ((alm nr &&& (enc nr V ^^^ (-1)) &&& ((((enc nr V).toUInt32 >>> ((16 : Int32).toUInt32 &&& Int32.toUInt32 31)).toInt32) ^^^ (-1))) &&& (((enc nr V2).toUInt32 >>> ((16 : Int32).toUInt32 &&& Int32.toUInt32 31)).toInt32))) i = decide (i < nr ∧ ((V i = 2 ∧ V2 i = 0) ∨ (V i = 0 ∧ V2 i = 2))) := by
    intro i hi
    rw [b_or, b_and, b_and _ (((enc nr V2).toUInt32 >>> _).toInt32), b_noE hn hV hi, b_noE hn hV2 hi, b_nE hn, b_nE hn]
    by_cases hr : i < nr <;> simp [hr]
  rw [mB_nz hn hm] at hf
  refine go_ok okF1 (C := cdX1_either) (by rfl) [] 60 (by exact Nat.le_of_ble_eq_true rfl) ?_
  simp (maxSteps := 2000000) only [go, stp, inS, ↓reduceIte, Bool.false_eq_true, Nat.reduceLT, Nat.reduceEqDiff, Nat.reduceAdd, ldI, ldL, ldA, st1, st2, okS, List.getElem?_cons_zero, List.getElem?_cons_succ, List.length_cons, List.length_nil, List.set_cons_zero, List.set_cons_succ, callP, callF, popN, ct, Value.category, cI, List.getD_cons_zero, List.getD_cons_succ, and_self, and_true, true_and, Nat.zero_le, Nat.reduceLeDiff, Nat.add_zero, Nat.zero_add, List.nil_append, List.cons_append, Option.toList_some, Option.toList_none, List.append_nil, hset_ss, true_or, or_true, eq_self, beq_self_eq_true, List.drop_succ_cons, List.drop_zero, swT, swL, hset_ap, not_true_eq_false, not_false_eq_true, true_implies, false_implies, implies_true, Int32.reduceLE, Int32.reduceLT, Int32.reduceAdd, Int32.reduceSub, Int32.reduceOfInt, Int32.reduceToNatClampNeg, i10, i01, Nat.add_left_cancel_iff, Nat.left_eq_add, Nat.add_eq_left, cdX1_either, F1, (show h' t = _ from hE')]
  have := hq h' fi' hE' hf hO
  rw [← enc_of (V := fun r => vE (bt dn 3) (V r) (V2 r)) ?_ ?_ hn] at this
  exact this
  · intro i hi
    rw [b_or, b_yE hn, b_yE hn]
    by_cases hr : i < nr
    · have := hV i hr
      have := hV2 i hr
      rcases (show V i = 0 ∨ V i = 1 ∨ V i = 2 by omega) with e | e | e <;> rcases (show V2 i = 0 ∨ V2 i = 1 ∨ V2 i = 2 by omega) with e2 | e2 | e2 <;> cases bt dn 3 <;> simp [hr, e, e2, vE]
    · simp [hr]
  · intro i hi
    rw [b_and, b_and _ ((_ : Int32) ^^^ _), b_and (alm nr) ((_ : Int32) ^^^ _), b_not _ (by omega), b_not _ (by omega), b_not _ (by omega), b_and (alm nr &&& _ &&& _) (alm nr &&& _ &&& _), b_noE hn hV (by omega), b_noE hn hV2 (by omega), b_ite, hm i (by omega), b_0, b_or, b_yE hn, b_yE hn, b_alm (by omega) (by omega)]
    by_cases hr : i < nr
    · have := hV i hr
      have := hV2 i hr
      rcases (show V i = 0 ∨ V i = 1 ∨ V i = 2 by omega) with e | e | e <;> rcases (show V2 i = 0 ∨ V2 i = 1 ∨ V2 i = 2 by omega) with e2 | e2 | e2 <;> cases bt dn 3 <;> simp [hr, e, e2, vE]
    · simp [hr]
end EV
