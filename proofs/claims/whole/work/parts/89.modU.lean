
/-! the model: terms, and compares -/
theorem upd_me (c : Nat → Int32) (i : Nat) : upd c i (c i) = c := by
  funext j
  by_cases e : j = i
  · subst e; rw [pk_us]
  · rw [pk_un e]
def fiN (c : Nat → Int32) (eng : Bool) (v : Int32) (P : Nat → Prop) : Prop := ∀ j, j < 32 → (bt v j = true ↔ (bt (c 30) j = true ∨ (eng = true ∧ bt (c 28) j = true ∧ P j)))
theorem fiN.no {c : Nat → Int32} {eng : Bool} {P : Nat → Prop} (h : ∀ j, eng = true → ¬ P j) : fiN c eng (c 30) P := fun j _ => ⟨Or.inl, fun q => q.elim id (fun w => absurd w.2.2 (h j w.1))⟩
def eI (eng : Bool) : Int32 := if eng = true then 1 else 0
def dnE (c : Nat → Int32) (eng : Bool) : Int32 := if eng = true then c 28 &&& c 29 else 0
section MU
variable {n : Nat} {h : aH} {Q : aQ} {M : MS} {c : Nat → Int32} {a : Nat → Nat → Int32} {l : Nat → Nat → Int64}
set_option maxRecDepth 100000 in
set_option maxHeartbeats 400000 in
theorem D_isOn {i : Nat} (m : MH h c a l) (hi : i < 32) (hq : Q (some (.int (if bt (c 28) i = true then 1 else 0))) n h) : Ok 184 [.ref 52, .int (nI i)] n h Q := by
  refine ok_of kMX11_isOn kCX11_isOn (Nat.le_of_ble_eq_true rfl) (fun z => ?_)
  change A z _ _ 0 0 _ 0 [some (.ref 52), some (.int (nI i))] [] _
  by_cases e : bt (c 28) i = true
  · refine go_ok okF1 (C := cdX11_isOn) (by rfl) [] 30 (by exact Nat.le_of_ble_eq_true rfl) ?_
    simp (maxSteps := 2000000) only [go, stp, inS, ↓reduceIte, Bool.false_eq_true, Nat.reduceLT, Nat.reduceEqDiff, Nat.reduceAdd, ldI, ldL, ldA, st1, st2, okS, List.getElem?_cons_zero, List.getElem?_cons_succ, List.length_cons, List.length_nil, List.set_cons_zero, List.set_cons_succ, callP, callF, popN, ct, Value.category, cI, List.getD_cons_zero, List.getD_cons_succ, and_self, and_true, true_and, Nat.zero_le, Nat.reduceLeDiff, Nat.add_zero, Nat.zero_add, List.nil_append, List.cons_append, Option.toList_some, Option.toList_none, List.append_nil, hset_ss, true_or, or_true, eq_self, beq_self_eq_true, List.drop_succ_cons, List.drop_zero, swT, swL, hset_ap, not_true_eq_false, not_false_eq_true, true_implies, false_implies, implies_true, Int32.reduceLE, Int32.reduceLT, Int32.reduceAdd, Int32.reduceSub, Int32.reduceOfInt, Int32.reduceToNatClampNeg, i10, i01, Nat.add_left_cancel_iff, Nat.left_eq_add, Nat.add_eq_left, cdX11_isOn, F1, m.o, b_ask _ hi, e]
    rw [if_pos e] at hq; exact hq
  · refine go_ok okF1 (C := cdX11_isOn) (by rfl) [] 30 (by exact Nat.le_of_ble_eq_true rfl) ?_
    simp (maxSteps := 2000000) only [go, stp, inS, ↓reduceIte, Bool.false_eq_true, Nat.reduceLT, Nat.reduceEqDiff, Nat.reduceAdd, ldI, ldL, ldA, st1, st2, okS, List.getElem?_cons_zero, List.getElem?_cons_succ, List.length_cons, List.length_nil, List.set_cons_zero, List.set_cons_succ, callP, callF, popN, ct, Value.category, cI, List.getD_cons_zero, List.getD_cons_succ, and_self, and_true, true_and, Nat.zero_le, Nat.reduceLeDiff, Nat.add_zero, Nat.zero_add, List.nil_append, List.cons_append, Option.toList_some, Option.toList_none, List.append_nil, hset_ss, true_or, or_true, eq_self, beq_self_eq_true, List.drop_succ_cons, List.drop_zero, swT, swL, hset_ap, not_true_eq_false, not_false_eq_true, true_implies, false_implies, implies_true, Int32.reduceLE, Int32.reduceLT, Int32.reduceAdd, Int32.reduceSub, Int32.reduceOfInt, Int32.reduceToNatClampNeg, i10, i01, Nat.add_left_cancel_iff, Nat.left_eq_add, Nat.add_eq_left, cdX11_isOn, F1, m.o, b_ask _ hi, e]
    rw [if_neg e] at hq; exact hq
set_option maxRecDepth 100000 in
set_option maxHeartbeats 400000 in
theorem D_done {i : Nat} (m : MH h c a l) (hi : i < 32) (hq : ∀ h' v, MH h' (upd c 30 v) a l → fiN c true v (fun j => j = i) → sOff h h' 52 80 → Q (some (.int (if bt (c 28 &&& c 29) i = true then 1 else 0))) n h') : Ok 185 [.ref 52, .int (nI i)] n h Q := by
  refine ok_of kMX11_isDone kCX11_isDone (Nat.le_of_ble_eq_true rfl) (fun z => ?_)
  change A z _ _ 0 0 _ 0 [some (.ref 52), some (.int (nI i))] [] _
  refine go_ok okF1 (C := cdX11_isDone) (by rfl) [] 30 (by exact Nat.le_of_ble_eq_true rfl) ?_
  simp (maxSteps := 2000000) only [go, stp, inS, ↓reduceIte, Bool.false_eq_true, Nat.reduceLT, Nat.reduceEqDiff, Nat.reduceAdd, ldI, ldL, ldA, st1, st2, okS, List.getElem?_cons_zero, List.getElem?_cons_succ, List.length_cons, List.length_nil, List.set_cons_zero, List.set_cons_succ, callP, callF, popN, ct, Value.category, cI, List.getD_cons_zero, List.getD_cons_succ, and_self, and_true, true_and, Nat.zero_le, Nat.reduceLeDiff, Nat.add_zero, Nat.zero_add, List.nil_append, List.cons_append, Option.toList_some, Option.toList_none, List.append_nil, hset_ss, true_or, or_true, eq_self, beq_self_eq_true, List.drop_succ_cons, List.drop_zero, swT, swL, hset_ap, not_true_eq_false, not_false_eq_true, true_implies, false_implies, implies_true, Int32.reduceLE, Int32.reduceLT, Int32.reduceAdd, Int32.reduceSub, Int32.reduceOfInt, Int32.reduceToNatClampNeg, i10, i01, Nat.add_left_cancel_iff, Nat.left_eq_add, Nat.add_eq_left, cdX11_isDone, F1, m.o]
  refine D_isOn m hi ?_
  rw [b_and] at hq
  by_cases e : bt (c 28) i = true
  · rw [if_pos e]
    have m1 := m.sc (upd c 30 (c 30 ||| ((1 : Int32) <<< (nI i &&& 31))))
    have fin := hq _ _ m1 (fun j hj => by
      rw [b_or, b_pw i hi j hj]
      by_cases ej : j = i
      · subst ej; simp [e]
      · simp [ej]) (sOff.rf.set (by omega) (by omega))
    by_cases e2 : bt (c 29) i = true
    · rw [e, e2] at fin
      refine go_ok okF1 (C := cdX11_isDone) (by rfl) [] 30 (by exact Nat.le_of_ble_eq_true rfl) ?_
      simp (maxSteps := 2000000) only [go, stp, inS, ↓reduceIte, Bool.false_eq_true, Nat.reduceLT, Nat.reduceEqDiff, Nat.reduceAdd, ldI, ldL, ldA, st1, st2, okS, List.getElem?_cons_zero, List.getElem?_cons_succ, List.length_cons, List.length_nil, List.set_cons_zero, List.set_cons_succ, callP, callF, popN, ct, Value.category, cI, List.getD_cons_zero, List.getD_cons_succ, and_self, and_true, true_and, Nat.zero_le, Nat.reduceLeDiff, Nat.add_zero, Nat.zero_add, List.nil_append, List.cons_append, Option.toList_some, Option.toList_none, List.append_nil, hset_ss, true_or, or_true, eq_self, beq_self_eq_true, List.drop_succ_cons, List.drop_zero, swT, swL, hset_ap, not_true_eq_false, not_false_eq_true, true_implies, false_implies, implies_true, Int32.reduceLE, Int32.reduceLT, Int32.reduceAdd, Int32.reduceSub, Int32.reduceOfInt, Int32.reduceToNatClampNeg, i10, i01, Nat.add_left_cancel_iff, Nat.left_eq_add, Nat.add_eq_left, cdX11_isDone, F1, m.o, b_ask _ hi, e2]
      exact fin
    · rw [e, Bool.eq_false_iff.mpr e2] at fin
      refine go_ok okF1 (C := cdX11_isDone) (by rfl) [] 30 (by exact Nat.le_of_ble_eq_true rfl) ?_
      simp (maxSteps := 2000000) only [go, stp, inS, ↓reduceIte, Bool.false_eq_true, Nat.reduceLT, Nat.reduceEqDiff, Nat.reduceAdd, ldI, ldL, ldA, st1, st2, okS, List.getElem?_cons_zero, List.getElem?_cons_succ, List.length_cons, List.length_nil, List.set_cons_zero, List.set_cons_succ, callP, callF, popN, ct, Value.category, cI, List.getD_cons_zero, List.getD_cons_succ, and_self, and_true, true_and, Nat.zero_le, Nat.reduceLeDiff, Nat.add_zero, Nat.zero_add, List.nil_append, List.cons_append, Option.toList_some, Option.toList_none, List.append_nil, hset_ss, true_or, or_true, eq_self, beq_self_eq_true, List.drop_succ_cons, List.drop_zero, swT, swL, hset_ap, not_true_eq_false, not_false_eq_true, true_implies, false_implies, implies_true, Int32.reduceLE, Int32.reduceLT, Int32.reduceAdd, Int32.reduceSub, Int32.reduceOfInt, Int32.reduceToNatClampNeg, i10, i01, Nat.add_left_cancel_iff, Nat.left_eq_add, Nat.add_eq_left, cdX11_isDone, F1, m.o, b_ask _ hi, e2]
      exact fin
  · rw [if_neg e]
    refine go_ok okF1 (C := cdX11_isDone) (by rfl) [] 30 (by exact Nat.le_of_ble_eq_true rfl) ?_
    simp (maxSteps := 2000000) only [go, stp, inS, ↓reduceIte, Bool.false_eq_true, Nat.reduceLT, Nat.reduceEqDiff, Nat.reduceAdd, ldI, ldL, ldA, st1, st2, okS, List.getElem?_cons_zero, List.getElem?_cons_succ, List.length_cons, List.length_nil, List.set_cons_zero, List.set_cons_succ, callP, callF, popN, ct, Value.category, cI, List.getD_cons_zero, List.getD_cons_succ, and_self, and_true, true_and, Nat.zero_le, Nat.reduceLeDiff, Nat.add_zero, Nat.zero_add, List.nil_append, List.cons_append, Option.toList_some, Option.toList_none, List.append_nil, hset_ss, true_or, or_true, eq_self, beq_self_eq_true, List.drop_succ_cons, List.drop_zero, swT, swL, hset_ap, not_true_eq_false, not_false_eq_true, true_implies, false_implies, implies_true, Int32.reduceLE, Int32.reduceLT, Int32.reduceAdd, Int32.reduceSub, Int32.reduceOfInt, Int32.reduceToNatClampNeg, i10, i01, Nat.add_left_cancel_iff, Nat.left_eq_add, Nat.add_eq_left, cdX11_isDone, F1]
    have := hq h (c 30) (by rw [upd_me]; exact m) (fun j hj => ⟨Or.inl, fun q => q.elim id (fun w => by obtain ⟨-, w2, rfl⟩ := w; exact absurd w2 e)⟩) sOff.rf
    rw [Bool.eq_false_iff.mpr e] at this
    exact this
theorem kd_lt {τ : Int32} (h : tmOk τ) : (kdK τ < 3 ↔ coB τ = true) ∧ (kdK τ = 3 ↔ toB τ = true) := by
  rw [co_iff, to_iff]
  rcases h with rfl | h | h
  · decide
  · have h1 : ¬ τ = -100 := fun q => by subst q; exact absurd h.1 (by decide)
    have h2 : ¬ 20 ≤ τ := fun q => by
      have := h.2
      rw [Int32.le_iff_toInt_le] at this q
      rw [show (20 : Int32).toInt = 20 from rfl] at q
      rw [show (9 : Int32).toInt = 9 from rfl] at this
      omega
    unfold kdK
    rw [if_neg h1, if_neg h2]
    exact ⟨⟨fun q => absurd q (by decide), fun q => absurd q.1 h2⟩, ⟨fun _ => h, fun _ => rfl⟩⟩
  · obtain ⟨j, h1, h2, rfl⟩ := i_rng (a := 20) (b := 22) (by omega) h.1 (by have := h.2; rw [Int32.lt_iff_toInt_lt] at this; rw [Int32.le_iff_toInt_le]; rw [show (23 : Int32).toInt = 23 from rfl] at this; rw [show (nI 22).toInt = 22 from rfl]; omega) (by omega)
    exact (by unfold kdK; decide +kernel : ∀ j, j < 23 → 20 ≤ j → (kdK (nI j) < 3 ↔ (20 ≤ nI j ∧ nI j < 23)) ∧ (kdK (nI j) = 3 ↔ (-9 ≤ nI j ∧ nI j ≤ 9))) j (by omega) h1
set_option maxRecDepth 100000 in
set_option maxHeartbeats 400000 in
theorem D_tv {τ : Int32} {r : Nat} (m : MH h c a l) (ht : tmOk τ) (hr : r < 8) (hq : Q (some (.int (tv (a 8) r τ))) n h) : Ok 186 [.ref 52, .int (nI r), .int (kdK τ), .int (nmK τ)] n h Q := by
  have k := kd_lt ht
  unfold tv at hq
  refine ok_of kMX11_term kCX11_term (Nat.le_of_ble_eq_true rfl) (fun z => ?_)
  change A z _ _ 0 0 _ 0 [some (.ref 52), some (.int (nI r)), some (.int (kdK τ)), some (.int (nmK τ))] [] _
  rcases ht with rfl | h1 | h1
  · refine go_ok okF1 (C := cdX11_term) (by rfl) [] 30 (by exact Nat.le_of_ble_eq_true rfl) ?_
    simp (maxSteps := 2000000) only [go, stp, inS, ↓reduceIte, Bool.false_eq_true, Nat.reduceLT, Nat.reduceEqDiff, Nat.reduceAdd, ldI, ldL, ldA, st1, st2, okS, List.getElem?_cons_zero, List.getElem?_cons_succ, List.length_cons, List.length_nil, List.set_cons_zero, List.set_cons_succ, callP, callF, popN, ct, Value.category, cI, List.getD_cons_zero, List.getD_cons_succ, and_self, and_true, true_and, Nat.zero_le, Nat.reduceLeDiff, Nat.add_zero, Nat.zero_add, List.nil_append, List.cons_append, Option.toList_some, Option.toList_none, List.append_nil, hset_ss, true_or, or_true, eq_self, beq_self_eq_true, List.drop_succ_cons, List.drop_zero, swT, swL, hset_ap, not_true_eq_false, not_false_eq_true, true_implies, false_implies, implies_true, Int32.reduceLE, Int32.reduceLT, Int32.reduceAdd, Int32.reduceSub, Int32.reduceOfInt, Int32.reduceToNatClampNeg, i10, i01, Nat.add_left_cancel_iff, Nat.left_eq_add, Nat.add_eq_left, cdX11_term, F1, (show kdK (-100) = 4 by decide), (show nmK (-100) = 0 by decide), (show ¬ (4 : Int32) = 3 by decide)]
    exact hq
  · have h2 : ¬ 20 ≤ τ := fun q => by
      have := h1.2
      rw [Int32.le_iff_toInt_le] at this q
      rw [show (20 : Int32).toInt = 20 from rfl] at q
      rw [show (9 : Int32).toInt = 9 from rfl] at this
      omega
    have h3 : kdK τ = 3 := k.2.mpr (to_iff.mpr h1)
    have h4 : nmK τ = τ := by unfold nmK; rw [if_neg (fun q => q.elim (fun w => by subst w; exact absurd h1.1 (by decide)) h2)]
    refine go_ok okF1 (C := cdX11_term) (by rfl) [] 30 (by exact Nat.le_of_ble_eq_true rfl) ?_
    simp (maxSteps := 2000000) only [go, stp, inS, ↓reduceIte, Bool.false_eq_true, Nat.reduceLT, Nat.reduceEqDiff, Nat.reduceAdd, ldI, ldL, ldA, st1, st2, okS, List.getElem?_cons_zero, List.getElem?_cons_succ, List.length_cons, List.length_nil, List.set_cons_zero, List.set_cons_succ, callP, callF, popN, ct, Value.category, cI, List.getD_cons_zero, List.getD_cons_succ, and_self, and_true, true_and, Nat.zero_le, Nat.reduceLeDiff, Nat.add_zero, Nat.zero_add, List.nil_append, List.cons_append, Option.toList_some, Option.toList_none, List.append_nil, hset_ss, true_or, or_true, eq_self, beq_self_eq_true, List.drop_succ_cons, List.drop_zero, swT, swL, hset_ap, not_true_eq_false, not_false_eq_true, true_implies, false_implies, implies_true, Int32.reduceLE, Int32.reduceLT, Int32.reduceAdd, Int32.reduceSub, Int32.reduceOfInt, Int32.reduceToNatClampNeg, i10, i01, Nat.add_left_cancel_iff, Nat.left_eq_add, Nat.add_eq_left, cdX11_term, F1, h3, h4]
    rw [if_neg h2] at hq; exact hq
  · obtain ⟨j, g1, g2, rfl⟩ := i_rng (a := 20) (b := 22) (by omega) h1.1 (by have := h1.2; rw [Int32.lt_iff_toInt_lt] at this; rw [Int32.le_iff_toInt_le]; rw [show (23 : Int32).toInt = 23 from rfl] at this; rw [show (nI 22).toInt = 22 from rfl]; omega) (by omega)
    have h3 : kdK (nI j) = nI (j - 20) := (by unfold kdK; decide +kernel : ∀ j, j < 23 → 20 ≤ j → kdK (nI j) = nI (j - 20)) j (by omega) g1
    have h4 : ¬ 3 ≤ nI (j - 20) := by rw [show (3 : Int32) = nI 3 from rfl, i_le (by omega) (by omega)]; omega
    refine go_ok okF1 (C := cdX11_term) (by rfl) [] 30 (by exact Nat.le_of_ble_eq_true rfl) ?_
    simp (maxSteps := 2000000) only [go, stp, inS, ↓reduceIte, Bool.false_eq_true, Nat.reduceLT, Nat.reduceEqDiff, Nat.reduceAdd, ldI, ldL, ldA, st1, st2, okS, List.getElem?_cons_zero, List.getElem?_cons_succ, List.length_cons, List.length_nil, List.set_cons_zero, List.set_cons_succ, callP, callF, popN, ct, Value.category, cI, List.getD_cons_zero, List.getD_cons_succ, and_self, and_true, true_and, Nat.zero_le, Nat.reduceLeDiff, Nat.add_zero, Nat.zero_add, List.nil_append, List.cons_append, Option.toList_some, Option.toList_none, List.append_nil, hset_ss, true_or, or_true, eq_self, beq_self_eq_true, List.drop_succ_cons, List.drop_zero, swT, swL, hset_ap, not_true_eq_false, not_false_eq_true, true_implies, false_implies, implies_true, Int32.reduceLE, Int32.reduceLT, Int32.reduceAdd, Int32.reduceSub, Int32.reduceOfInt, Int32.reduceToNatClampNeg, i10, i01, Nat.add_left_cancel_iff, Nat.left_eq_add, Nat.add_eq_left, cdX11_term, F1, h3, h4, m.o, m.a8, ix3, nI_add, i_cl (show 3 * r + (j - 20) < 2147483648 by omega)]
    repeat refine ⟨vp_in_nI (by omega) (by omega), ?_⟩
    rw [if_pos h1.1, i_cl (by omega), Nat.mul_comm] at hq
    exact hq
-- a compare, with no rule
def r0 (g x y : Int32) : Nat := if x = -100 ∨ y = -100 then 2 else if g = 60 then (if x < y then 1 else 0) else if g = 61 then (if x = y then 1 else 0) else (if y < x then 1 else 0)
def P1 (g x y : Int32) : Prop := g = 61 ∧ x = -100 ∧ y = -100
def P4 (g x y : Int32) (τ2 : Int32) : Prop := g = 60 ∧ ¬ (x = -100 ∨ y = -100) ∧ x = y ∧ coB τ2 = true
def P6 (g x y : Int32) (τ1 τ2 : Int32) : Prop := g = 62 ∧ ¬ (x = -100 ∨ y = -100) ∧ x < y ∧ coB τ1 = true ∧ toB τ2 = true
theorem lt_ne {x y : Int32} (h : x < y) : ¬ x = y := fun q => by subst q; exact absurd h (Int32.lt_irrefl)
theorem lt_as {x y : Int32} (h : x < y) : ¬ y < x := fun q => by rw [Int32.lt_iff_toInt_lt] at h q; omega
theorem vC_1 {d : Nat → Bool} {g τ1 τ2 x y : Int32} (h : P1 g x y) : vC d g τ1 τ2 x y = if d 1 = true then 1 else r0 g x y := by
  obtain ⟨rfl, rfl, rfl⟩ := h
  unfold vC r0
  cases d 1 <;> simp
theorem vC_4 {d : Nat → Bool} {g τ1 τ2 x y : Int32} (h : P4 g x y τ2) : vC d g τ1 τ2 x y = if d 4 = true then 1 else r0 g x y := by
  obtain ⟨rfl, h1, rfl, h2⟩ := h
  unfold vC r0
  rw [if_neg h1, if_neg h1, if_pos rfl, if_pos rfl, if_neg Int32.lt_irrefl, h2]
  cases d 4 <;> simp
theorem vC_6 {d : Nat → Bool} {g τ1 τ2 x y : Int32} (h : P6 g x y τ1 τ2) : vC d g τ1 τ2 x y = if d 6 = true then 2 else r0 g x y := by
  obtain ⟨rfl, h1, h3, h2, h4⟩ := h
  unfold vC r0
  simp only [if_neg h1, show ((62 : Int32) = 60) = False from by decide, show ((62 : Int32) = 61) = False from by decide, if_false, if_neg (lt_as h3), h2, h4, h3, true_and]
theorem vC_0 {d : Nat → Bool} {g τ1 τ2 x y : Int32} (hg : isCm g) (h1 : ¬ P1 g x y) (h4 : ¬ P4 g x y τ2) (h6 : ¬ P6 g x y τ1 τ2) : vC d g τ1 τ2 x y = r0 g x y := by
  unfold vC r0
  by_cases hn : x = -100 ∨ y = -100
  · rw [if_pos hn, if_pos hn, if_neg (fun q => h1 ⟨q.1, q.2.1, q.2.2.1⟩)]
  · rw [if_neg hn, if_neg hn]
    rcases hg with rfl | rfl | rfl
    · rw [if_pos rfl, if_pos rfl]
      by_cases e : x < y
      · rw [if_pos e, if_pos e]
      · rw [if_neg e, if_neg e, if_neg (fun q => h4 ⟨rfl, hn, q.1, q.2.1⟩)]
    · simp only [show ((61 : Int32) = 60) = False from by decide, if_false]
      rfl
    · simp only [show ((62 : Int32) = 60) = False from by decide, show ((62 : Int32) = 61) = False from by decide, if_false]
      by_cases e : y < x
      · rw [if_pos e, if_pos e]
      · rw [if_neg e, if_neg e, if_neg (fun q => h6 ⟨rfl, hn, q.1, q.2.1, q.2.2.1⟩)]
theorem FC_iff {j : Nat} {g τ1 τ2 x y : Int32} : FC j g τ1 τ2 x y ↔ ((j = 1 ∧ P1 g x y) ∨ (j = 4 ∧ P4 g x y τ2) ∨ (j = 6 ∧ P6 g x y τ1 τ2)) := by
  unfold FC P1 P4 P6
  constructor
  · rintro (q | ⟨a, b, c, d, e⟩ | ⟨a, b, c, d, e⟩)
    · exact Or.inl q
    · exact Or.inr (Or.inl ⟨a, b, fun w => w.elim c d, e⟩)
    · exact Or.inr (Or.inr ⟨a, b, fun w => w.elim c d, e⟩)
  · rintro (q | ⟨a, b, c, e⟩ | ⟨a, b, c, e⟩)
    · exact Or.inl q
    · exact Or.inr (Or.inl ⟨a, b, fun w => c (Or.inl w), fun w => c (Or.inr w), e⟩)
    · exact Or.inr (Or.inr ⟨a, b, fun w => c (Or.inl w), fun w => c (Or.inr w), e⟩)
end MU
