
/-! the model: growing -/
def gw (c0 : Nat → Int32) (a0 : Nat → Nat → Int32) (c : Nat → Int32) (a : Nat → Nat → Int32) (sd op : Int32) (Rm : Nat → Int32) (o : List Int32) : Prop := c 37 = sd ∧ c 39 = op ∧ a 38 = Rm ∧ a 10 1 = nI o.length ∧ (∀ i, i < o.length → a 9 (40 + i) = o.getD i 0) ∧ (∀ i, i ≠ 37 → i ≠ 39 → c i = c0 i) ∧ (∀ i, i ≠ 9 → i ≠ 10 → i ≠ 38 → a i = a0 i) ∧ (∀ q, q < 40 → a 9 q = a0 9 q) ∧ a 10 0 = a0 10 0
section MY2
variable {n : Nat} {h : aH} {Q : aQ} {M : MS} {c c0 : Nat → Int32} {a a0 : Nat → Nat → Int32} {l : Nat → Nat → Int64} {sd op : Int32} {Rm : Nat → Int32} {o : List Int32}
set_option maxRecDepth 100000 in
set_option maxHeartbeats 400000 in
theorem D_lot {k : Nat} (m : MH h c a l) (g : gw c0 a0 c a sd op Rm o) (h0 : 0 < k) (hk : k < 1000) (hq : ∀ h' c', MH h' c' a l → gw c0 a0 c' a (lcg sd) op Rm o → sOff h h' 52 80 → Q (some (.int (nI (ltN (lcg sd) k)))) n h') : Ok 217 [.ref 52, .int (nI k)] n h Q := by
  obtain ⟨g1, g2, g3, g4, g5, g6, g7, g8, g9⟩ := g
  have e0 : ¬ nI k = 0 := nI_ne0 h0 (by omega)
  refine ok_of kMX11_lot kCX11_lot (Nat.le_of_ble_eq_true rfl) (fun z => ?_)
  change A z _ _ 0 0 _ 0 [some (.ref 52), some (.int (nI k))] [] _
  refine go_ok okF1 (C := cdX11_lot) (by rfl) [] 40 (by exact Nat.le_of_ble_eq_true rfl) ?_
  simp (maxSteps := 2000000) only [go, stp, inS, ↓reduceIte, Bool.false_eq_true, Nat.reduceLT, Nat.reduceEqDiff, Nat.reduceAdd, ldI, ldL, ldA, st1, st2, okS, List.getElem?_cons_zero, List.getElem?_cons_succ, List.length_cons, List.length_nil, List.set_cons_zero, List.set_cons_succ, callP, callF, popN, ct, Value.category, cI, List.getD_cons_zero, List.getD_cons_succ, and_self, and_true, true_and, Nat.zero_le, Nat.reduceLeDiff, Nat.add_zero, Nat.zero_add, List.nil_append, List.cons_append, Option.toList_some, Option.toList_none, List.append_nil, hset_ss, true_or, or_true, eq_self, beq_self_eq_true, List.drop_succ_cons, List.drop_zero, swT, swL, hset_ap, not_true_eq_false, not_false_eq_true, true_implies, false_implies, implies_true, Int32.reduceLE, Int32.reduceLT, Int32.reduceAdd, Int32.reduceSub, Int32.reduceOfInt, Int32.reduceToNatClampNeg, i10, i01, Nat.add_left_cancel_iff, Nat.left_eq_add, Nat.add_eq_left, cdX11_lot, F1, m.o, g1, e0]
  have e := lot_eq (lcg sd) h0 (show k < 2147483648 by omega)
  unfold lcg at e
  have fin := hq _ (upd c 37 (lcg sd)) (m.sc (upd c 37 (lcg sd))) ⟨rfl, g2, g3, g4, g5, fun i i1 i2 => by rw [pk_un i1]; exact g6 i i1 i2, g7, g8, g9⟩ (sOff.rf.set (by omega) (by omega))
  unfold lcg at fin
  rw [e]
  exact fin
set_option maxRecDepth 100000 in
set_option maxHeartbeats 400000 in
theorem D_byte {b : Int32} (m : MH h c a l) (g : gw c0 a0 c a sd op Rm o) (h40 : o.length < 40) (hq : ∀ h' a', MH h' c a' l → gw c0 a0 c a' sd op Rm (o ++ [b]) → sOff h h' 52 80 → Q none n h') : Ok 218 [.ref 52, .int 1, .int b] n h Q := by
  obtain ⟨g1, g2, g3, g4, g5, g6, g7, g8, g9⟩ := g
  have im : (40 : Int32) * 1 + nI o.length = nI (40 + o.length) := ix40 1 o.length
  refine ok_of kMX11_addsByte kCX11_addsByte (Nat.le_of_ble_eq_true rfl) (fun z => ?_)
  change A z _ _ 0 0 _ 0 [some (.ref 52), some (.int 1), some (.int b)] [] _
  refine go_ok okF1 (C := cdX11_addsByte) (by rfl) [] 40 (by exact Nat.le_of_ble_eq_true rfl) ?_
  simp (maxSteps := 2000000) only [go, stp, inS, ↓reduceIte, Bool.false_eq_true, Nat.reduceLT, Nat.reduceEqDiff, Nat.reduceAdd, ldI, ldL, ldA, st1, st2, okS, List.getElem?_cons_zero, List.getElem?_cons_succ, List.length_cons, List.length_nil, List.set_cons_zero, List.set_cons_succ, callP, callF, popN, ct, Value.category, cI, List.getD_cons_zero, List.getD_cons_succ, and_self, and_true, true_and, Nat.zero_le, Nat.reduceLeDiff, Nat.add_zero, Nat.zero_add, List.nil_append, List.cons_append, Option.toList_some, Option.toList_none, List.append_nil, hset_ss, true_or, or_true, eq_self, beq_self_eq_true, List.drop_succ_cons, List.drop_zero, swT, swL, hset_ap, not_true_eq_false, not_false_eq_true, true_implies, false_implies, implies_true, Int32.reduceLE, Int32.reduceLT, Int32.reduceAdd, Int32.reduceSub, Int32.reduceOfInt, Int32.reduceToNatClampNeg, i10, i01, Nat.add_left_cancel_iff, Nat.left_eq_add, Nat.add_eq_left, cdX11_addsByte, F1, m.o, m.a9, m.a10, (show (1 : Int32).toNatClampNeg = 1 by decide), g4, im, i_cl (show 40 + o.length < 2147483648 by omega), nI_1]
  refine ⟨vp_in_nI (n := 1) (by omega) (by omega), vp_in_nI (by omega) (by omega), vp_in_nI (n := 1) (by omega) (by omega), vp_in_nI (n := 1) (by omega) (by omega), ?_⟩
  refine hq _ _ ((m.s9 (upd (a 9) (40 + o.length) b)).s10 (upd (a 10) 1 (nI (o.length + 1)))) ⟨g1, g2, g3, ?_, fun i hi => ?_, g6, fun i i1 i2 i3 => by rw [fset_n _ _ i2, fset_n _ _ i1]; exact g7 i i1 i2 i3, fun q hq => ?_, ?_⟩ ((sOff.rf.set (by omega) (by omega)).set (by omega) (by omega))
  · rw [List.length_append, List.length_singleton]
    show upd (a 10) 1 (nI (o.length + 1)) 1 = _
    exact pk_us
  · rw [List.length_append, List.length_singleton] at hi
    show upd (a 9) (40 + o.length) b (40 + i) = _
    by_cases e : i = o.length
    · subst e; rw [pk_us]; simp
    · rw [pk_un (by omega), g5 i (by omega)]
      simp [List.getD, List.getElem?_append_left (show i < o.length by omega)]
  · show upd (a 9) (40 + o.length) b q = _
    rw [pk_un (by omega)]; exact g8 q hq
  · show upd (a 10) 1 (nI (o.length + 1)) 0 = _
    rw [pk_un (by omega)]; exact g9
set_option maxRecDepth 100000 in
set_option maxHeartbeats 400000 in
theorem D_gterm (m : MH h c a l) (g : gw c0 a0 c a sd op Rm o) (h40 : o.length + 2 ≤ 40) (hq : ∀ h' c' a', MH h' c' a' l → gw c0 a0 c' a' (gTerm sd o).1 op Rm (gTerm sd o).2 → sOff h h' 52 80 → Q none n h') : Ok 219 [.ref 52] n h Q := by
  unfold gTerm at hq
  refine ok_of kMX11_growsTerm kCX11_growsTerm (Nat.le_of_ble_eq_true rfl) (fun z => ?_)
  change A z _ _ 0 0 _ 0 [some (.ref 52), none] [] _
  refine go_ok okF1 (C := cdX11_growsTerm) (by rfl) [] 40 (by exact Nat.le_of_ble_eq_true rfl) ?_
  simp (maxSteps := 2000000) only [go, stp, inS, ↓reduceIte, Bool.false_eq_true, Nat.reduceLT, Nat.reduceEqDiff, Nat.reduceAdd, ldI, ldL, ldA, st1, st2, okS, List.getElem?_cons_zero, List.getElem?_cons_succ, List.length_cons, List.length_nil, List.set_cons_zero, List.set_cons_succ, callP, callF, popN, ct, Value.category, cI, List.getD_cons_zero, List.getD_cons_succ, and_self, and_true, true_and, Nat.zero_le, Nat.reduceLeDiff, Nat.add_zero, Nat.zero_add, List.nil_append, List.cons_append, Option.toList_some, Option.toList_none, List.append_nil, hset_ss, true_or, or_true, eq_self, beq_self_eq_true, List.drop_succ_cons, List.drop_zero, swT, swL, hset_ap, not_true_eq_false, not_false_eq_true, true_implies, false_implies, implies_true, Int32.reduceLE, Int32.reduceLT, Int32.reduceAdd, Int32.reduceSub, Int32.reduceOfInt, Int32.reduceToNatClampNeg, i10, i01, Nat.add_left_cancel_iff, Nat.left_eq_add, Nat.add_eq_left, cdX11_growsTerm, F1, m.o]
  refine D_lot (k := 6) m g (by omega) (by omega) (fun h1 c1 m1 g1 o1 => ?_)
  have l6 := ltN_lt (lcg sd) (k := 6) (by omega)
  generalize ltN (lcg sd) 6 = k6 at hq l6 ⊢
  by_cases e3 : k6 < 3
  · rw [if_pos e3] at hq
    have f3 : ¬ 3 ≤ nI k6 := by rw [show (3 : Int32) = nI 3 from rfl, i_le (by omega) (by omega)]; omega
    refine go_ok okF1 (C := cdX11_growsTerm) (by rfl) [] 40 (by exact Nat.le_of_ble_eq_true rfl) ?_
    simp (maxSteps := 2000000) only [go, stp, inS, ↓reduceIte, Bool.false_eq_true, Nat.reduceLT, Nat.reduceEqDiff, Nat.reduceAdd, ldI, ldL, ldA, st1, st2, okS, List.getElem?_cons_zero, List.getElem?_cons_succ, List.length_cons, List.length_nil, List.set_cons_zero, List.set_cons_succ, callP, callF, popN, ct, Value.category, cI, List.getD_cons_zero, List.getD_cons_succ, and_self, and_true, true_and, Nat.zero_le, Nat.reduceLeDiff, Nat.add_zero, Nat.zero_add, List.nil_append, List.cons_append, Option.toList_some, Option.toList_none, List.append_nil, hset_ss, true_or, or_true, eq_self, beq_self_eq_true, List.drop_succ_cons, List.drop_zero, swT, swL, hset_ap, not_true_eq_false, not_false_eq_true, true_implies, false_implies, implies_true, Int32.reduceLE, Int32.reduceLT, Int32.reduceAdd, Int32.reduceSub, Int32.reduceOfInt, Int32.reduceToNatClampNeg, i10, i01, Nat.add_left_cancel_iff, Nat.left_eq_add, Nat.add_eq_left, cdX11_growsTerm, F1, f3, m1.o, (show (97 : Int32) + nI k6 = nI (97 + k6) from nI_add 97 k6)]
    refine D_byte m1 g1 (by omega) (fun h2 a2 m2 g2 o2 => ?_)
    refine go_ok okF1 (C := cdX11_growsTerm) (by rfl) [] 40 (by exact Nat.le_of_ble_eq_true rfl) ?_
    simp (maxSteps := 2000000) only [go, stp, inS, ↓reduceIte, Bool.false_eq_true, Nat.reduceLT, Nat.reduceEqDiff, Nat.reduceAdd, ldI, ldL, ldA, st1, st2, okS, List.getElem?_cons_zero, List.getElem?_cons_succ, List.length_cons, List.length_nil, List.set_cons_zero, List.set_cons_succ, callP, callF, popN, ct, Value.category, cI, List.getD_cons_zero, List.getD_cons_succ, and_self, and_true, true_and, Nat.zero_le, Nat.reduceLeDiff, Nat.add_zero, Nat.zero_add, List.nil_append, List.cons_append, Option.toList_some, Option.toList_none, List.append_nil, hset_ss, true_or, or_true, eq_self, beq_self_eq_true, List.drop_succ_cons, List.drop_zero, swT, swL, hset_ap, not_true_eq_false, not_false_eq_true, true_implies, false_implies, implies_true, Int32.reduceLE, Int32.reduceLT, Int32.reduceAdd, Int32.reduceSub, Int32.reduceOfInt, Int32.reduceToNatClampNeg, i10, i01, Nat.add_left_cancel_iff, Nat.left_eq_add, Nat.add_eq_left, cdX11_growsTerm, F1]
    exact hq h2 c1 a2 m2 g2 (o1.tr o2)
  · rw [if_neg e3] at hq
    have f3 : 3 ≤ nI k6 := by rw [show (3 : Int32) = nI 3 from rfl, i_le (by omega) (by omega)]; omega
    by_cases e4 : k6 = 3
    · subst e4
      rw [if_pos rfl] at hq
      refine go_ok okF1 (C := cdX11_growsTerm) (by rfl) [] 40 (by exact Nat.le_of_ble_eq_true rfl) ?_
      simp (maxSteps := 2000000) only [go, stp, inS, ↓reduceIte, Bool.false_eq_true, Nat.reduceLT, Nat.reduceEqDiff, Nat.reduceAdd, ldI, ldL, ldA, st1, st2, okS, List.getElem?_cons_zero, List.getElem?_cons_succ, List.length_cons, List.length_nil, List.set_cons_zero, List.set_cons_succ, callP, callF, popN, ct, Value.category, cI, List.getD_cons_zero, List.getD_cons_succ, and_self, and_true, true_and, Nat.zero_le, Nat.reduceLeDiff, Nat.add_zero, Nat.zero_add, List.nil_append, List.cons_append, Option.toList_some, Option.toList_none, List.append_nil, hset_ss, true_or, or_true, eq_self, beq_self_eq_true, List.drop_succ_cons, List.drop_zero, swT, swL, hset_ap, not_true_eq_false, not_false_eq_true, true_implies, false_implies, implies_true, Int32.reduceLE, Int32.reduceLT, Int32.reduceAdd, Int32.reduceSub, Int32.reduceOfInt, Int32.reduceToNatClampNeg, i10, i01, Nat.add_left_cancel_iff, Nat.left_eq_add, Nat.add_eq_left, cdX11_growsTerm, F1, (show nI 3 = 3 from rfl), m1.o]
      refine D_byte m1 g1 (by omega) (fun h2 a2 m2 g2 o2 => ?_)
      refine go_ok okF1 (C := cdX11_growsTerm) (by rfl) [] 40 (by exact Nat.le_of_ble_eq_true rfl) ?_
      simp (maxSteps := 2000000) only [go, stp, inS, ↓reduceIte, Bool.false_eq_true, Nat.reduceLT, Nat.reduceEqDiff, Nat.reduceAdd, ldI, ldL, ldA, st1, st2, okS, List.getElem?_cons_zero, List.getElem?_cons_succ, List.length_cons, List.length_nil, List.set_cons_zero, List.set_cons_succ, callP, callF, popN, ct, Value.category, cI, List.getD_cons_zero, List.getD_cons_succ, and_self, and_true, true_and, Nat.zero_le, Nat.reduceLeDiff, Nat.add_zero, Nat.zero_add, List.nil_append, List.cons_append, Option.toList_some, Option.toList_none, List.append_nil, hset_ss, true_or, or_true, eq_self, beq_self_eq_true, List.drop_succ_cons, List.drop_zero, swT, swL, hset_ap, not_true_eq_false, not_false_eq_true, true_implies, false_implies, implies_true, Int32.reduceLE, Int32.reduceLT, Int32.reduceAdd, Int32.reduceSub, Int32.reduceOfInt, Int32.reduceToNatClampNeg, i10, i01, Nat.add_left_cancel_iff, Nat.left_eq_add, Nat.add_eq_left, cdX11_growsTerm, F1]
      exact hq h2 c1 a2 m2 g2 (o1.tr o2)
    · rw [if_neg e4] at hq
      have f4 : ¬ nI k6 = 3 := fun w => e4 ((i_eq (b := 3) (by omega) (by omega)).mp w)
      have rest : ∀ h2 a2 o2', o2'.length + 1 ≤ 40 → MH h2 c1 a2 l → gw c0 a0 c1 a2 (lcg sd) op Rm o2' → sOff h h2 52 80 → (∀ h' c' a', MH h' c' a' l → gw c0 a0 c' a' (lcg (lcg sd)) op Rm (o2' ++ [nI (48 + ltN (lcg (lcg sd)) 10)]) → sOff h h' 52 80 → Q none n h') → A z 219 n 0 0 h2 51 [some (.ref 52), some (.int (nI k6))] [] Q := by
        intro h2 a2 o2' hl m2 g2 o2 nx
        refine go_ok okF1 (C := cdX11_growsTerm) (by rfl) [] 40 (by exact Nat.le_of_ble_eq_true rfl) ?_
        simp (maxSteps := 2000000) only [go, stp, inS, ↓reduceIte, Bool.false_eq_true, Nat.reduceLT, Nat.reduceEqDiff, Nat.reduceAdd, ldI, ldL, ldA, st1, st2, okS, List.getElem?_cons_zero, List.getElem?_cons_succ, List.length_cons, List.length_nil, List.set_cons_zero, List.set_cons_succ, callP, callF, popN, ct, Value.category, cI, List.getD_cons_zero, List.getD_cons_succ, and_self, and_true, true_and, Nat.zero_le, Nat.reduceLeDiff, Nat.add_zero, Nat.zero_add, List.nil_append, List.cons_append, Option.toList_some, Option.toList_none, List.append_nil, hset_ss, true_or, or_true, eq_self, beq_self_eq_true, List.drop_succ_cons, List.drop_zero, swT, swL, hset_ap, not_true_eq_false, not_false_eq_true, true_implies, false_implies, implies_true, Int32.reduceLE, Int32.reduceLT, Int32.reduceAdd, Int32.reduceSub, Int32.reduceOfInt, Int32.reduceToNatClampNeg, i10, i01, Nat.add_left_cancel_iff, Nat.left_eq_add, Nat.add_eq_left, cdX11_growsTerm, F1, m2.o]
        refine D_lot (k := 10) m2 g2 (by omega) (by omega) (fun h3 c3 m3 g3 o3 => ?_)
        refine go_ok okF1 (C := cdX11_growsTerm) (by rfl) [] 40 (by exact Nat.le_of_ble_eq_true rfl) ?_
        simp (maxSteps := 2000000) only [go, stp, inS, ↓reduceIte, Bool.false_eq_true, Nat.reduceLT, Nat.reduceEqDiff, Nat.reduceAdd, ldI, ldL, ldA, st1, st2, okS, List.getElem?_cons_zero, List.getElem?_cons_succ, List.length_cons, List.length_nil, List.set_cons_zero, List.set_cons_succ, callP, callF, popN, ct, Value.category, cI, List.getD_cons_zero, List.getD_cons_succ, and_self, and_true, true_and, Nat.zero_le, Nat.reduceLeDiff, Nat.add_zero, Nat.zero_add, List.nil_append, List.cons_append, Option.toList_some, Option.toList_none, List.append_nil, hset_ss, true_or, or_true, eq_self, beq_self_eq_true, List.drop_succ_cons, List.drop_zero, swT, swL, hset_ap, not_true_eq_false, not_false_eq_true, true_implies, false_implies, implies_true, Int32.reduceLE, Int32.reduceLT, Int32.reduceAdd, Int32.reduceSub, Int32.reduceOfInt, Int32.reduceToNatClampNeg, i10, i01, Nat.add_left_cancel_iff, Nat.left_eq_add, Nat.add_eq_left, cdX11_growsTerm, F1, m3.o, (show (48 : Int32) + nI (ltN (lcg (lcg sd)) 10) = nI (48 + ltN (lcg (lcg sd)) 10) from nI_add 48 _)]
        refine D_byte m3 g3 (by omega) (fun h4 a4 m4 g4 o4 => ?_)
        refine go_ok okF1 (C := cdX11_growsTerm) (by rfl) [] 40 (by exact Nat.le_of_ble_eq_true rfl) ?_
        simp (maxSteps := 2000000) only [go, stp, inS, ↓reduceIte, Bool.false_eq_true, Nat.reduceLT, Nat.reduceEqDiff, Nat.reduceAdd, ldI, ldL, ldA, st1, st2, okS, List.getElem?_cons_zero, List.getElem?_cons_succ, List.length_cons, List.length_nil, List.set_cons_zero, List.set_cons_succ, callP, callF, popN, ct, Value.category, cI, List.getD_cons_zero, List.getD_cons_succ, and_self, and_true, true_and, Nat.zero_le, Nat.reduceLeDiff, Nat.add_zero, Nat.zero_add, List.nil_append, List.cons_append, Option.toList_some, Option.toList_none, List.append_nil, hset_ss, true_or, or_true, eq_self, beq_self_eq_true, List.drop_succ_cons, List.drop_zero, swT, swL, hset_ap, not_true_eq_false, not_false_eq_true, true_implies, false_implies, implies_true, Int32.reduceLE, Int32.reduceLT, Int32.reduceAdd, Int32.reduceSub, Int32.reduceOfInt, Int32.reduceToNatClampNeg, i10, i01, Nat.add_left_cancel_iff, Nat.left_eq_add, Nat.add_eq_left, cdX11_growsTerm, F1]
        exact nx h4 c3 a4 m4 g4 ((o2.tr o3).tr o4)
      by_cases e5 : k6 = 5
      · subst e5
        rw [if_pos rfl] at hq
        refine go_ok okF1 (C := cdX11_growsTerm) (by rfl) [51] 40 (by exact Nat.le_of_ble_eq_true rfl) ?_
        simp (maxSteps := 2000000) only [go, stp, inS, ↓reduceIte, Bool.false_eq_true, Nat.reduceLT, Nat.reduceEqDiff, Nat.reduceAdd, ldI, ldL, ldA, st1, st2, okS, List.getElem?_cons_zero, List.getElem?_cons_succ, List.length_cons, List.length_nil, List.set_cons_zero, List.set_cons_succ, callP, callF, popN, ct, Value.category, cI, List.getD_cons_zero, List.getD_cons_succ, and_self, and_true, true_and, Nat.zero_le, Nat.reduceLeDiff, Nat.add_zero, Nat.zero_add, List.nil_append, List.cons_append, Option.toList_some, Option.toList_none, List.append_nil, hset_ss, true_or, or_true, eq_self, beq_self_eq_true, List.drop_succ_cons, List.drop_zero, swT, swL, hset_ap, not_true_eq_false, not_false_eq_true, true_implies, false_implies, implies_true, Int32.reduceLE, Int32.reduceLT, Int32.reduceAdd, Int32.reduceSub, Int32.reduceOfInt, Int32.reduceToNatClampNeg, i10, i01, Nat.add_left_cancel_iff, Nat.left_eq_add, Nat.add_eq_left, cdX11_growsTerm, F1, f3, f4, (show nI 5 = 5 from rfl), (show ¬ (5 : Int32) = 3 by decide), m1.o]
        refine D_byte m1 g1 (by omega) (fun h2 a2 m2 g2 o2 => ?_)
        exact rest h2 a2 (o ++ [45]) (by simp; omega) m2 g2 (o1.tr o2) hq
      · rw [if_neg e5] at hq
        have f5 : ¬ nI k6 = 5 := fun w => e5 ((i_eq (b := 5) (by omega) (by omega)).mp w)
        refine go_ok okF1 (C := cdX11_growsTerm) (by rfl) [51] 40 (by exact Nat.le_of_ble_eq_true rfl) ?_
        simp (maxSteps := 2000000) only [go, stp, inS, ↓reduceIte, Bool.false_eq_true, Nat.reduceLT, Nat.reduceEqDiff, Nat.reduceAdd, ldI, ldL, ldA, st1, st2, okS, List.getElem?_cons_zero, List.getElem?_cons_succ, List.length_cons, List.length_nil, List.set_cons_zero, List.set_cons_succ, callP, callF, popN, ct, Value.category, cI, List.getD_cons_zero, List.getD_cons_succ, and_self, and_true, true_and, Nat.zero_le, Nat.reduceLeDiff, Nat.add_zero, Nat.zero_add, List.nil_append, List.cons_append, Option.toList_some, Option.toList_none, List.append_nil, hset_ss, true_or, or_true, eq_self, beq_self_eq_true, List.drop_succ_cons, List.drop_zero, swT, swL, hset_ap, not_true_eq_false, not_false_eq_true, true_implies, false_implies, implies_true, Int32.reduceLE, Int32.reduceLT, Int32.reduceAdd, Int32.reduceSub, Int32.reduceOfInt, Int32.reduceToNatClampNeg, i10, i01, Nat.add_left_cancel_iff, Nat.left_eq_add, Nat.add_eq_left, cdX11_growsTerm, F1, eq_true f3, f4, f5]
        exact rest h1 a o (by omega) m1 g1 o1 hq
theorem sg_of : ∀ k, k < 7 → (if nI k = 0 then (38 : Int32) else if nI k = 1 then 124 else if nI k = 2 then 33 else if nI k = 3 then 63 else if nI k = 4 then 60 else if nI k = 5 then 61 else 62) = sA2 k := by decide +kernel
set_option maxRecDepth 100000 in
set_option maxHeartbeats 400000 in
theorem D_grows {seed : Int32} {r : Nat} (m : MH h c a l) (h1 : 1 ≤ r) (h9 : r ≤ 9) (hq : ∀ h' c' a' op Rm, MH h' c' a' l → gw c a c' a' (gF 9 ([r], seed, [])).2.1 op Rm (grB seed r) → sOff h h' 52 80 → Q none n h') : Ok 221 [.ref 52, .int seed, .int (nI r)] n h Q := by
  unfold grB at hq
  refine ok_of kMX11_grows kCX11_grows (Nat.le_of_ble_eq_true rfl) (fun z => ?_)
  change A z _ _ 0 0 _ 0 [some (.ref 52), some (.int seed), some (.int (nI r)), none, none, none] [] _
  refine go_ok okF1 (C := cdX11_grows) (by rfl) [24] 60 (by exact Nat.le_of_ble_eq_true rfl) ?_
  simp (maxSteps := 2000000) only [go, stp, inS, ↓reduceIte, Bool.false_eq_true, Nat.reduceLT, Nat.reduceEqDiff, Nat.reduceAdd, ldI, ldL, ldA, st1, st2, okS, List.getElem?_cons_zero, List.getElem?_cons_succ, List.length_cons, List.length_nil, List.set_cons_zero, List.set_cons_succ, callP, callF, popN, ct, Value.category, cI, List.getD_cons_zero, List.getD_cons_succ, and_self, and_true, true_and, Nat.zero_le, Nat.reduceLeDiff, Nat.add_zero, Nat.zero_add, List.nil_append, List.cons_append, Option.toList_some, Option.toList_none, List.append_nil, hset_ss, true_or, or_true, eq_self, beq_self_eq_true, List.drop_succ_cons, List.drop_zero, swT, swL, hset_ap, not_true_eq_false, not_false_eq_true, true_implies, false_implies, implies_true, Int32.reduceLE, Int32.reduceLT, Int32.reduceAdd, Int32.reduceSub, Int32.reduceOfInt, Int32.reduceToNatClampNeg, i10, i01, Nat.add_left_cancel_iff, Nat.left_eq_add, Nat.add_eq_left, cdX11_grows, F1, m.o, m.a10, m.a38]
  have loop : ∀ w i (st : List Nat) (sd : Int32) (o : List Int32) h' c' a' Rm l3 l4 l5, i + w = 9 → gInv (pz (fun _ => 0) (fun _ => 0) (fun _ => 0)) i (st, sd, o) → MH h' c' a' l → gw c a c' a' sd (nI st.length) Rm o → stk Rm st → sOff h h' 52 80 → gF 9 ([r], seed, []) = gF w (st, sd, o) → A z 221 n 0 0 h' 24 [some (.ref 52), some (.int seed), some (.int (nI r)), l3, l4, l5] [] Q := by
    intro w
    have stop : ∀ (i : Nat) (sd : Int32) (o : List Int32) h' c' a' Rm l3 l4 l5, MH h' c' a' l → gw c a c' a' sd (nI 0) Rm o → sOff h h' 52 80 → gF 9 ([r], seed, []) = ([], sd, o) → A z 221 n 0 0 h' 24 [some (.ref 52), some (.int seed), some (.int (nI r)), l3, l4, l5] [] Q := by
      intro i sd o h' c' a' Rm l3 l4 l5 m' g' o' e
      refine go_ok okF1 (C := cdX11_grows) (by rfl) [] 60 (by exact Nat.le_of_ble_eq_true rfl) ?_
      simp (maxSteps := 2000000) only [go, stp, inS, ↓reduceIte, Bool.false_eq_true, Nat.reduceLT, Nat.reduceEqDiff, Nat.reduceAdd, ldI, ldL, ldA, st1, st2, okS, List.getElem?_cons_zero, List.getElem?_cons_succ, List.length_cons, List.length_nil, List.set_cons_zero, List.set_cons_succ, callP, callF, popN, ct, Value.category, cI, List.getD_cons_zero, List.getD_cons_succ, and_self, and_true, true_and, Nat.zero_le, Nat.reduceLeDiff, Nat.add_zero, Nat.zero_add, List.nil_append, List.cons_append, Option.toList_some, Option.toList_none, List.append_nil, hset_ss, true_or, or_true, eq_self, beq_self_eq_true, List.drop_succ_cons, List.drop_zero, swT, swL, hset_ap, not_true_eq_false, not_false_eq_true, true_implies, false_implies, implies_true, Int32.reduceLE, Int32.reduceLT, Int32.reduceAdd, Int32.reduceSub, Int32.reduceOfInt, Int32.reduceToNatClampNeg, i10, i01, Nat.add_left_cancel_iff, Nat.left_eq_add, Nat.add_eq_left, cdX11_grows, F1, m'.o, g'.2.1, (show nI 0 ≤ 0 by decide)]
      have := hq h' c' a' (nI 0) Rm m'
      rw [e] at this
      exact this g' o'
    induction w with
    | zero =>
      intro i st sd o h' c' a' Rm l3 l4 l5 hw hI m' g' hs o' e
      cases st with
      | nil => exact stop i sd o h' c' a' Rm l3 l4 l5 m' g' o' e
      | cons r0 rest =>
        have q1 := hI.1.1
        have q2 := hI.2.1
        simp only [rsum] at q2
        omega
    | succ w ih =>
      intro i st sd o h' c' a' Rm l3 l4 l5 hw hI m' g' hs o' e
      cases st with
      | nil => exact stop i sd o h' c' a' Rm l3 l4 l5 m' g' o' (by rw [e, gF_nil])
      | cons r0 rest =>
        have hI2 := gInv_step hI
        obtain ⟨i1, i2, i3, i4⟩ := hI
        have hr0 := i1.1
        have hlen := rmin_len i1.2
        simp only [rsum] at i2
        simp only [rwt] at i3
        have e2 : gF 9 ([r], seed, []) = gF w (gstep (r0 :: rest, sd, o)) := e
        have hop : ¬ nI (rest.length + 1) ≤ 0 := nI_nle (by omega) (by omega)
        obtain ⟨g1, g2, g3, g4, g5, g6, g7, g8, g9⟩ := id g'
        have g2' : c' 39 = nI (rest.length + 1) := g2
        have rm : a' 38 rest.length = nI r0 := by rw [g3]; exact hs.1
        -- the sign
        have k7 := gKi_lt (lcg sd) r0
        have m2 := m'.sc (upd c' 39 (nI rest.length))
        have gg : gw c a (upd c' 39 (nI rest.length)) a' sd (nI rest.length) Rm o := ⟨g1, rfl, g3, g4, g5, fun i i1 i2 => by rw [pk_un i2]; exact g6 i i1 i2, g7, g8, g9⟩
        have o2 : sOff h (hset h' 52 (oM (upd c' 39 (nI rest.length)))) 52 80 := o'.set (by omega) (by omega)
        have sign : ∀ h3 c3 l5, MH h3 c3 a' l → gw c a c3 a' (lcg sd) (nI rest.length) Rm o → sOff h h3 52 80 → A z 221 n 0 0 h3 95 [some (.ref 52), some (.int seed), some (.int (nI r)), some (.int (nI r0)), some (.int (nI (gKi (lcg sd) r0))), l5] [] Q := by
          intro h3 c3 l5 m3 q3 o3
          refine go_ok okF1 (C := cdX11_grows) (by rfl) [] 60 (by exact Nat.le_of_ble_eq_true rfl) ?_
          simp (maxSteps := 2000000) only [go, stp, inS, ↓reduceIte, Bool.false_eq_true, Nat.reduceLT, Nat.reduceEqDiff, Nat.reduceAdd, ldI, ldL, ldA, st1, st2, okS, List.getElem?_cons_zero, List.getElem?_cons_succ, List.length_cons, List.length_nil, List.set_cons_zero, List.set_cons_succ, callP, callF, popN, ct, Value.category, cI, List.getD_cons_zero, List.getD_cons_succ, and_self, and_true, true_and, Nat.zero_le, Nat.reduceLeDiff, Nat.add_zero, Nat.zero_add, List.nil_append, List.cons_append, Option.toList_some, Option.toList_none, List.append_nil, hset_ss, true_or, or_true, eq_self, beq_self_eq_true, List.drop_succ_cons, List.drop_zero, swT, swL, hset_ap, not_true_eq_false, not_false_eq_true, true_implies, false_implies, implies_true, Int32.reduceLE, Int32.reduceLT, Int32.reduceAdd, Int32.reduceSub, Int32.reduceOfInt, Int32.reduceToNatClampNeg, i10, i01, Nat.add_left_cancel_iff, Nat.left_eq_add, Nat.add_eq_left, cdX11_grows, F1, m3.o, sg_of _ k7]
          refine D_byte m3 q3 (by omega) (fun h4 a4 m4 q4 o4 => ?_)
          have q4' := q4
          obtain ⟨p1, p2, p3, p4, p5, p6, p7, p8, p9⟩ := q4
          unfold gstep at hI2 e2
          dsimp only at hI2 e2
          by_cases c2 : gKi (lcg sd) r0 < 2
          · have r3 := gKi_3 hr0 c2
            rw [if_pos c2] at hI2 e2
            have f2 : ¬ 2 ≤ nI (gKi (lcg sd) r0) := by rw [show (2 : Int32) = nI 2 from rfl, i_le (by omega) (by omega)]; omega
            refine go_ok okF1 (C := cdX11_grows) (by rfl) [] 60 (by exact Nat.le_of_ble_eq_true rfl) ?_
            simp (maxSteps := 2000000) only [go, stp, inS, ↓reduceIte, Bool.false_eq_true, Nat.reduceLT, Nat.reduceEqDiff, Nat.reduceAdd, ldI, ldL, ldA, st1, st2, okS, List.getElem?_cons_zero, List.getElem?_cons_succ, List.length_cons, List.length_nil, List.set_cons_zero, List.set_cons_succ, callP, callF, popN, ct, Value.category, cI, List.getD_cons_zero, List.getD_cons_succ, and_self, and_true, true_and, Nat.zero_le, Nat.reduceLeDiff, Nat.add_zero, Nat.zero_add, List.nil_append, List.cons_append, Option.toList_some, Option.toList_none, List.append_nil, hset_ss, true_or, or_true, eq_self, beq_self_eq_true, List.drop_succ_cons, List.drop_zero, swT, swL, hset_ap, not_true_eq_false, not_false_eq_true, true_implies, false_implies, implies_true, Int32.reduceLE, Int32.reduceLT, Int32.reduceAdd, Int32.reduceSub, Int32.reduceOfInt, Int32.reduceToNatClampNeg, i10, i01, Nat.add_left_cancel_iff, Nat.left_eq_add, Nat.add_eq_left, cdX11_grows, F1, f2, m4.o, (show nI r0 - 2 = nI (r0 - 2) from pk_sub (b := 2) (by omega))]
            refine D_lot (k := r0 - 2) m4 q4' (by omega) (by omega) (fun h5 c5 m5 q5 o5 => ?_)
            have hlt := ltN_lt (lcg (lcg sd)) (k := r0 - 2) (by omega)
            generalize ltN (lcg (lcg sd)) (r0 - 2) = lt at hI2 e2 hlt ⊢
            obtain ⟨s1, s2, s3, s4, s5, s6, s7, s8, s9⟩ := q5
            have s2' : c5 39 = nI rest.length := s2
            refine go_ok okF1 (C := cdX11_grows) (by rfl) [24] 90 (by exact Nat.le_of_ble_eq_true rfl) ?_
            simp (maxSteps := 2000000) only [go, stp, inS, ↓reduceIte, Bool.false_eq_true, Nat.reduceLT, Nat.reduceEqDiff, Nat.reduceAdd, ldI, ldL, ldA, st1, st2, okS, List.getElem?_cons_zero, List.getElem?_cons_succ, List.length_cons, List.length_nil, List.set_cons_zero, List.set_cons_succ, callP, callF, popN, ct, Value.category, cI, List.getD_cons_zero, List.getD_cons_succ, and_self, and_true, true_and, Nat.zero_le, Nat.reduceLeDiff, Nat.add_zero, Nat.zero_add, List.nil_append, List.cons_append, Option.toList_some, Option.toList_none, List.append_nil, hset_ss, true_or, or_true, eq_self, beq_self_eq_true, List.drop_succ_cons, List.drop_zero, swT, swL, hset_ap, not_true_eq_false, not_false_eq_true, true_implies, false_implies, implies_true, Int32.reduceLE, Int32.reduceLT, Int32.reduceAdd, Int32.reduceSub, Int32.reduceOfInt, Int32.reduceToNatClampNeg, i10, i01, Nat.add_left_cancel_iff, Nat.left_eq_add, Nat.add_eq_left, cdX11_grows, F1, m5.o, m5.a38, s2', i_cl (show rest.length < 2147483648 by omega), nI_1, i_cl (show rest.length + 1 < 2147483648 by omega), ix2, (show (1 : Int32) + nI lt = nI (1 + lt) from nI_add 1 lt), (show nI r0 - 1 = nI (r0 - 1) from pk_sub (b := 1) (by omega)), (show nI (r0 - 1) - nI (1 + lt) = nI (r0 - 1 - (1 + lt)) from pk_sub (by omega))]
            repeat refine ⟨vp_in_nI (by omega) (by omega), ?_⟩
            refine ih (i + 1) _ _ _ _ (upd (upd c5 39 (nI rest.length)) 39 (nI (rest.length + 2))) _ (upd (upd Rm rest.length (nI (r0 - 1 - (1 + lt)))) (rest.length + 1) (nI (1 + lt))) _ _ _ (by omega) hI2 ((m5.s38 (upd (upd (a4 38) rest.length (nI (r0 - 1 - (1 + lt)))) (rest.length + 1) (nI (1 + lt)))).sc (upd (upd c5 39 (nI rest.length)) 39 (nI (rest.length + 2)))) ⟨s1, rfl, ?_, s4, s5, fun i i1 i2 => by rw [pk_un i2, pk_un i2]; exact s6 i i1 i2, fun i i1 i2 i3 => by rw [fset_n _ _ i3]; exact s7 i i1 i2 i3, s8, s9⟩ ⟨?_, ?_, ?_⟩ ((((o3.tr o4).tr o5).set (by omega) (by omega)).set (by omega) (by omega)) e2
            · show upd (upd (a4 38) rest.length (nI (r0 - 1 - (1 + lt)))) (rest.length + 1) (nI (1 + lt)) = _
              rw [s3]
            · exact pk_us
            · show upd (upd Rm rest.length (nI (r0 - 1 - (1 + lt)))) (rest.length + 1) (nI (1 + lt)) rest.length = _
              rw [pk_un (by omega)]; exact pk_us
            · exact stk_upd (by omega) (stk_upd (Nat.le_refl _) hs.2)
          · rw [if_neg c2] at hI2 e2
            have f2 : 2 ≤ nI (gKi (lcg sd) r0) := by rw [show (2 : Int32) = nI 2 from rfl, i_le (by omega) (by omega)]; omega
            by_cases c4 : gKi (lcg sd) r0 < 4
            · have r2 := gKi_2 hr0 c4
              rw [if_pos c4] at hI2 e2
              have f4 : ¬ 4 ≤ nI (gKi (lcg sd) r0) := by rw [show (4 : Int32) = nI 4 from rfl, i_le (by omega) (by omega)]; omega
              refine go_ok okF1 (C := cdX11_grows) (by rfl) [24] 60 (by exact Nat.le_of_ble_eq_true rfl) ?_
              simp (maxSteps := 2000000) only [go, stp, inS, ↓reduceIte, Bool.false_eq_true, Nat.reduceLT, Nat.reduceEqDiff, Nat.reduceAdd, ldI, ldL, ldA, st1, st2, okS, List.getElem?_cons_zero, List.getElem?_cons_succ, List.length_cons, List.length_nil, List.set_cons_zero, List.set_cons_succ, callP, callF, popN, ct, Value.category, cI, List.getD_cons_zero, List.getD_cons_succ, and_self, and_true, true_and, Nat.zero_le, Nat.reduceLeDiff, Nat.add_zero, Nat.zero_add, List.nil_append, List.cons_append, Option.toList_some, Option.toList_none, List.append_nil, hset_ss, true_or, or_true, eq_self, beq_self_eq_true, List.drop_succ_cons, List.drop_zero, swT, swL, hset_ap, not_true_eq_false, not_false_eq_true, true_implies, false_implies, implies_true, Int32.reduceLE, Int32.reduceLT, Int32.reduceAdd, Int32.reduceSub, Int32.reduceOfInt, Int32.reduceToNatClampNeg, i10, i01, Nat.add_left_cancel_iff, Nat.left_eq_add, Nat.add_eq_left, cdX11_grows, F1, eq_true f2, f4, m4.o, m4.a38, (show c3 39 = nI rest.length from p2), i_cl (show rest.length < 2147483648 by omega), nI_1, (show nI r0 - 1 = nI (r0 - 1) from pk_sub (b := 1) (by omega))]
              repeat refine ⟨vp_in_nI (by omega) (by omega), ?_⟩
              refine ih (i + 1) _ _ _ _ (upd (upd c3 39 (nI rest.length)) 39 (nI (rest.length + 1))) _ (upd Rm rest.length (nI (r0 - 1))) _ _ _ (by omega) hI2 ((m4.s38 (upd (a4 38) rest.length (nI (r0 - 1)))).sc (upd (upd c3 39 (nI rest.length)) 39 (nI (rest.length + 1)))) ⟨p1, rfl, ?_, p4, p5, fun i i1 i2 => by rw [pk_un i2, pk_un i2]; exact p6 i i1 i2, fun i i1 i2 i3 => by rw [fset_n _ _ i3]; exact p7 i i1 i2 i3, p8, p9⟩ ⟨pk_us, stk_upd (Nat.le_refl _) hs.2⟩ (((o3.tr o4).set (by omega) (by omega)).set (by omega) (by omega)) e2
              show upd (a4 38) rest.length (nI (r0 - 1)) = _
              rw [p3]
            · rw [if_neg c4] at hI2 e2
              have f4 : 4 ≤ nI (gKi (lcg sd) r0) := by rw [show (4 : Int32) = nI 4 from rfl, i_le (by omega) (by omega)]; omega
              have e1 := gTerm_len (lcg sd) (o ++ [sA2 (gKi (lcg sd) r0)])
              rw [List.length_append, List.length_singleton] at e1
              refine go_ok okF1 (C := cdX11_grows) (by rfl) [] 60 (by exact Nat.le_of_ble_eq_true rfl) ?_
              simp (maxSteps := 2000000) only [go, stp, inS, ↓reduceIte, Bool.false_eq_true, Nat.reduceLT, Nat.reduceEqDiff, Nat.reduceAdd, ldI, ldL, ldA, st1, st2, okS, List.getElem?_cons_zero, List.getElem?_cons_succ, List.length_cons, List.length_nil, List.set_cons_zero, List.set_cons_succ, callP, callF, popN, ct, Value.category, cI, List.getD_cons_zero, List.getD_cons_succ, and_self, and_true, true_and, Nat.zero_le, Nat.reduceLeDiff, Nat.add_zero, Nat.zero_add, List.nil_append, List.cons_append, Option.toList_some, Option.toList_none, List.append_nil, hset_ss, true_or, or_true, eq_self, beq_self_eq_true, List.drop_succ_cons, List.drop_zero, swT, swL, hset_ap, not_true_eq_false, not_false_eq_true, true_implies, false_implies, implies_true, Int32.reduceLE, Int32.reduceLT, Int32.reduceAdd, Int32.reduceSub, Int32.reduceOfInt, Int32.reduceToNatClampNeg, i10, i01, Nat.add_left_cancel_iff, Nat.left_eq_add, Nat.add_eq_left, cdX11_grows, F1, eq_true f2, eq_true f4, m4.o]
              refine D_gterm m4 q4' (by rw [List.length_append, List.length_singleton]; omega) (fun h5 c5 a5 m5 q5 o5 => ?_)
              refine go_ok okF1 (C := cdX11_grows) (by rfl) [] 60 (by exact Nat.le_of_ble_eq_true rfl) ?_
              simp (maxSteps := 2000000) only [go, stp, inS, ↓reduceIte, Bool.false_eq_true, Nat.reduceLT, Nat.reduceEqDiff, Nat.reduceAdd, ldI, ldL, ldA, st1, st2, okS, List.getElem?_cons_zero, List.getElem?_cons_succ, List.length_cons, List.length_nil, List.set_cons_zero, List.set_cons_succ, callP, callF, popN, ct, Value.category, cI, List.getD_cons_zero, List.getD_cons_succ, and_self, and_true, true_and, Nat.zero_le, Nat.reduceLeDiff, Nat.add_zero, Nat.zero_add, List.nil_append, List.cons_append, Option.toList_some, Option.toList_none, List.append_nil, hset_ss, true_or, or_true, eq_self, beq_self_eq_true, List.drop_succ_cons, List.drop_zero, swT, swL, hset_ap, not_true_eq_false, not_false_eq_true, true_implies, false_implies, implies_true, Int32.reduceLE, Int32.reduceLT, Int32.reduceAdd, Int32.reduceSub, Int32.reduceOfInt, Int32.reduceToNatClampNeg, i10, i01, Nat.add_left_cancel_iff, Nat.left_eq_add, Nat.add_eq_left, cdX11_grows, F1, m5.o]
              refine D_gterm m5 q5 (by omega) (fun h6 c6 a6 m6 q6 o6 => ?_)
              refine go_ok okF1 (C := cdX11_grows) (by rfl) [24] 60 (by exact Nat.le_of_ble_eq_true rfl) ?_
              simp (maxSteps := 2000000) only [go, stp, inS, ↓reduceIte, Bool.false_eq_true, Nat.reduceLT, Nat.reduceEqDiff, Nat.reduceAdd, ldI, ldL, ldA, st1, st2, okS, List.getElem?_cons_zero, List.getElem?_cons_succ, List.length_cons, List.length_nil, List.set_cons_zero, List.set_cons_succ, callP, callF, popN, ct, Value.category, cI, List.getD_cons_zero, List.getD_cons_succ, and_self, and_true, true_and, Nat.zero_le, Nat.reduceLeDiff, Nat.add_zero, Nat.zero_add, List.nil_append, List.cons_append, Option.toList_some, Option.toList_none, List.append_nil, hset_ss, true_or, or_true, eq_self, beq_self_eq_true, List.drop_succ_cons, List.drop_zero, swT, swL, hset_ap, not_true_eq_false, not_false_eq_true, true_implies, false_implies, implies_true, Int32.reduceLE, Int32.reduceLT, Int32.reduceAdd, Int32.reduceSub, Int32.reduceOfInt, Int32.reduceToNatClampNeg, i10, i01, Nat.add_left_cancel_iff, Nat.left_eq_add, Nat.add_eq_left, cdX11_grows, F1]
              exact ih (i + 1) _ _ _ h6 c6 a6 Rm _ _ _ (by omega) hI2 m6 q6 hs.2 (((o3.tr o4).tr o5).tr o6) e2
        -- its lot
        have k0 : ∀ h3 c3 l4 l5, MH h3 c3 a' l → gw c a c3 a' (lcg sd) (nI rest.length) Rm o → sOff h h3 52 80 → A z 221 n 0 0 h3 72 [some (.ref 52), some (.int seed), some (.int (nI r)), some (.int (nI r0)), l4, l5] [.int (nI (gK0 (lcg sd) r0))] Q := by
          intro h3 c3 l4 l5 m3 q3 o3
          have kk := gK0_lt (lcg sd) r0
          have nx := sign h3 c3 l5 m3 q3 o3
          unfold gKi at nx
          by_cases e7 : r0 = 2 ∧ gK0 (lcg sd) r0 < 2
          · rw [if_pos e7] at nx
            have f7 : ¬ 2 ≤ nI (gK0 (lcg sd) r0) := by rw [show (2 : Int32) = nI 2 from rfl, i_le (by omega) (by omega)]; omega
            have f8 : nI r0 = 2 := by rw [e7.1]; rfl
            refine go_ok okF1 (C := cdX11_grows) (by rfl) [95] 60 (by exact Nat.le_of_ble_eq_true rfl) ?_
            simp (maxSteps := 2000000) only [go, stp, inS, ↓reduceIte, Bool.false_eq_true, Nat.reduceLT, Nat.reduceEqDiff, Nat.reduceAdd, ldI, ldL, ldA, st1, st2, okS, List.getElem?_cons_zero, List.getElem?_cons_succ, List.length_cons, List.length_nil, List.set_cons_zero, List.set_cons_succ, callP, callF, popN, ct, Value.category, cI, List.getD_cons_zero, List.getD_cons_succ, and_self, and_true, true_and, Nat.zero_le, Nat.reduceLeDiff, Nat.add_zero, Nat.zero_add, List.nil_append, List.cons_append, Option.toList_some, Option.toList_none, List.append_nil, hset_ss, true_or, or_true, eq_self, beq_self_eq_true, List.drop_succ_cons, List.drop_zero, swT, swL, hset_ap, not_true_eq_false, not_false_eq_true, true_implies, false_implies, implies_true, Int32.reduceLE, Int32.reduceLT, Int32.reduceAdd, Int32.reduceSub, Int32.reduceOfInt, Int32.reduceToNatClampNeg, i10, i01, Nat.add_left_cancel_iff, Nat.left_eq_add, Nat.add_eq_left, cdX11_grows, F1, f7, ix2, (show (nI r0 = 2) = True from eq_true f8)]
            exact nx
          · rw [if_neg e7] at nx
            by_cases e8 : gK0 (lcg sd) r0 < 2
            · have f7 : ¬ 2 ≤ nI (gK0 (lcg sd) r0) := by rw [show (2 : Int32) = nI 2 from rfl, i_le (by omega) (by omega)]; omega
              have f8 : ¬ nI r0 = 2 := fun w => e7 ⟨(i_eq (b := 2) (by omega) (by omega)).mp w, e8⟩
              refine go_ok okF1 (C := cdX11_grows) (by rfl) [95] 60 (by exact Nat.le_of_ble_eq_true rfl) ?_
              simp (maxSteps := 2000000) only [go, stp, inS, ↓reduceIte, Bool.false_eq_true, Nat.reduceLT, Nat.reduceEqDiff, Nat.reduceAdd, ldI, ldL, ldA, st1, st2, okS, List.getElem?_cons_zero, List.getElem?_cons_succ, List.length_cons, List.length_nil, List.set_cons_zero, List.set_cons_succ, callP, callF, popN, ct, Value.category, cI, List.getD_cons_zero, List.getD_cons_succ, and_self, and_true, true_and, Nat.zero_le, Nat.reduceLeDiff, Nat.add_zero, Nat.zero_add, List.nil_append, List.cons_append, Option.toList_some, Option.toList_none, List.append_nil, hset_ss, true_or, or_true, eq_self, beq_self_eq_true, List.drop_succ_cons, List.drop_zero, swT, swL, hset_ap, not_true_eq_false, not_false_eq_true, true_implies, false_implies, implies_true, Int32.reduceLE, Int32.reduceLT, Int32.reduceAdd, Int32.reduceSub, Int32.reduceOfInt, Int32.reduceToNatClampNeg, i10, i01, Nat.add_left_cancel_iff, Nat.left_eq_add, Nat.add_eq_left, cdX11_grows, F1, f7, f8, Int32.add_zero]
              exact nx
            · have f7 : 2 ≤ nI (gK0 (lcg sd) r0) := by rw [show (2 : Int32) = nI 2 from rfl, i_le (by omega) (by omega)]; omega
              refine go_ok okF1 (C := cdX11_grows) (by rfl) [95] 60 (by exact Nat.le_of_ble_eq_true rfl) ?_
              simp (maxSteps := 2000000) only [go, stp, inS, ↓reduceIte, Bool.false_eq_true, Nat.reduceLT, Nat.reduceEqDiff, Nat.reduceAdd, ldI, ldL, ldA, st1, st2, okS, List.getElem?_cons_zero, List.getElem?_cons_succ, List.length_cons, List.length_nil, List.set_cons_zero, List.set_cons_succ, callP, callF, popN, ct, Value.category, cI, List.getD_cons_zero, List.getD_cons_succ, and_self, and_true, true_and, Nat.zero_le, Nat.reduceLeDiff, Nat.add_zero, Nat.zero_add, List.nil_append, List.cons_append, Option.toList_some, Option.toList_none, List.append_nil, hset_ss, true_or, or_true, eq_self, beq_self_eq_true, List.drop_succ_cons, List.drop_zero, swT, swL, hset_ap, not_true_eq_false, not_false_eq_true, true_implies, false_implies, implies_true, Int32.reduceLE, Int32.reduceLT, Int32.reduceAdd, Int32.reduceSub, Int32.reduceOfInt, Int32.reduceToNatClampNeg, i10, i01, Nat.add_left_cancel_iff, Nat.left_eq_add, Nat.add_eq_left, cdX11_grows, F1, eq_true f7, Int32.add_zero]
              exact nx
        by_cases e1 : 1 < r0
        · have f1 : ¬ nI r0 ≤ 1 := by rw [show (1 : Int32) = nI 1 from rfl, i_le (by omega) (by omega)]; omega
          refine go_ok okF1 (C := cdX11_grows) (by rfl) [] 60 (by exact Nat.le_of_ble_eq_true rfl) ?_
          simp (maxSteps := 2000000) only [go, stp, inS, ↓reduceIte, Bool.false_eq_true, Nat.reduceLT, Nat.reduceEqDiff, Nat.reduceAdd, ldI, ldL, ldA, st1, st2, okS, List.getElem?_cons_zero, List.getElem?_cons_succ, List.length_cons, List.length_nil, List.set_cons_zero, List.set_cons_succ, callP, callF, popN, ct, Value.category, cI, List.getD_cons_zero, List.getD_cons_succ, and_self, and_true, true_and, Nat.zero_le, Nat.reduceLeDiff, Nat.add_zero, Nat.zero_add, List.nil_append, List.cons_append, Option.toList_some, Option.toList_none, List.append_nil, hset_ss, true_or, or_true, eq_self, beq_self_eq_true, List.drop_succ_cons, List.drop_zero, swT, swL, hset_ap, not_true_eq_false, not_false_eq_true, true_implies, false_implies, implies_true, Int32.reduceLE, Int32.reduceLT, Int32.reduceAdd, Int32.reduceSub, Int32.reduceOfInt, Int32.reduceToNatClampNeg, i10, i01, Nat.add_left_cancel_iff, Nat.left_eq_add, Nat.add_eq_left, cdX11_grows, F1, m'.o, g2', hop, nI_pred, m'.a38, i_cl (show rest.length < 2147483648 by omega), rm, f1]
          repeat refine ⟨vp_in_nI (by omega) (by omega), ?_⟩
          refine D_lot (k := 7) m2 gg (by omega) (by omega) (fun h3 c3 m3 q3 o3 => ?_)
          have nx := k0 h3 c3 l4 l5 m3 q3 (o2.tr o3)
          unfold gK0 at nx
          rw [if_pos e1] at nx
          refine go_ok okF1 (C := cdX11_grows) (by rfl) [72] 60 (by exact Nat.le_of_ble_eq_true rfl) ?_
          simp (maxSteps := 2000000) only [go, stp, inS, ↓reduceIte, Bool.false_eq_true, Nat.reduceLT, Nat.reduceEqDiff, Nat.reduceAdd, ldI, ldL, ldA, st1, st2, okS, List.getElem?_cons_zero, List.getElem?_cons_succ, List.length_cons, List.length_nil, List.set_cons_zero, List.set_cons_succ, callP, callF, popN, ct, Value.category, cI, List.getD_cons_zero, List.getD_cons_succ, and_self, and_true, true_and, Nat.zero_le, Nat.reduceLeDiff, Nat.add_zero, Nat.zero_add, List.nil_append, List.cons_append, Option.toList_some, Option.toList_none, List.append_nil, hset_ss, true_or, or_true, eq_self, beq_self_eq_true, List.drop_succ_cons, List.drop_zero, swT, swL, hset_ap, not_true_eq_false, not_false_eq_true, true_implies, false_implies, implies_true, Int32.reduceLE, Int32.reduceLT, Int32.reduceAdd, Int32.reduceSub, Int32.reduceOfInt, Int32.reduceToNatClampNeg, i10, i01, Nat.add_left_cancel_iff, Nat.left_eq_add, Nat.add_eq_left, cdX11_grows, F1]
          exact nx
        · have f1 : nI r0 ≤ 1 := by rw [show (1 : Int32) = nI 1 from rfl, i_le (by omega) (by omega)]; omega
          refine go_ok okF1 (C := cdX11_grows) (by rfl) [] 60 (by exact Nat.le_of_ble_eq_true rfl) ?_
          simp (maxSteps := 2000000) only [go, stp, inS, ↓reduceIte, Bool.false_eq_true, Nat.reduceLT, Nat.reduceEqDiff, Nat.reduceAdd, ldI, ldL, ldA, st1, st2, okS, List.getElem?_cons_zero, List.getElem?_cons_succ, List.length_cons, List.length_nil, List.set_cons_zero, List.set_cons_succ, callP, callF, popN, ct, Value.category, cI, List.getD_cons_zero, List.getD_cons_succ, and_self, and_true, true_and, Nat.zero_le, Nat.reduceLeDiff, Nat.add_zero, Nat.zero_add, List.nil_append, List.cons_append, Option.toList_some, Option.toList_none, List.append_nil, hset_ss, true_or, or_true, eq_self, beq_self_eq_true, List.drop_succ_cons, List.drop_zero, swT, swL, hset_ap, not_true_eq_false, not_false_eq_true, true_implies, false_implies, implies_true, Int32.reduceLE, Int32.reduceLT, Int32.reduceAdd, Int32.reduceSub, Int32.reduceOfInt, Int32.reduceToNatClampNeg, i10, i01, Nat.add_left_cancel_iff, Nat.left_eq_add, Nat.add_eq_left, cdX11_grows, F1, m'.o, g2', hop, nI_pred, m'.a38, i_cl (show rest.length < 2147483648 by omega), rm, eq_true f1]
          repeat refine ⟨vp_in_nI (by omega) (by omega), ?_⟩
          refine D_lot (k := 3) m2 gg (by omega) (by omega) (fun h3 c3 m3 q3 o3 => ?_)
          have nx := k0 h3 c3 l4 l5 m3 q3 (o2.tr o3)
          unfold gK0 at nx
          rw [if_neg e1] at nx
          refine go_ok okF1 (C := cdX11_grows) (by rfl) [72] 60 (by exact Nat.le_of_ble_eq_true rfl) ?_
          simp (maxSteps := 2000000) only [go, stp, inS, ↓reduceIte, Bool.false_eq_true, Nat.reduceLT, Nat.reduceEqDiff, Nat.reduceAdd, ldI, ldL, ldA, st1, st2, okS, List.getElem?_cons_zero, List.getElem?_cons_succ, List.length_cons, List.length_nil, List.set_cons_zero, List.set_cons_succ, callP, callF, popN, ct, Value.category, cI, List.getD_cons_zero, List.getD_cons_succ, and_self, and_true, true_and, Nat.zero_le, Nat.reduceLeDiff, Nat.add_zero, Nat.zero_add, List.nil_append, List.cons_append, Option.toList_some, Option.toList_none, List.append_nil, hset_ss, true_or, or_true, eq_self, beq_self_eq_true, List.drop_succ_cons, List.drop_zero, swT, swL, hset_ap, not_true_eq_false, not_false_eq_true, true_implies, false_implies, implies_true, Int32.reduceLE, Int32.reduceLT, Int32.reduceAdd, Int32.reduceSub, Int32.reduceOfInt, Int32.reduceToNatClampNeg, i10, i01, Nat.add_left_cancel_iff, Nat.left_eq_add, Nat.add_eq_left, cdX11_grows, F1, (show (4 : Int32) + nI (ltN (lcg sd) 3) = nI (4 + ltN (lcg sd) 3) from nI_add 4 _)]
          exact nx
  refine ⟨vp_in_nI (n := 1) (by omega) (by omega), vp_in_nI (n := 0) (by omega) (by omega), ?_⟩
  refine loop 9 0 [r] seed [] _ (upd (upd c 37 seed) 39 1) _ (upd (a 38) 0 (nI r)) _ _ _ (by omega) (gInv_0 h1 h9) ((((m.sc (upd c 37 seed)).s10 (upd (a 10) 1 0)).sc (upd (upd c 37 seed) 39 1)).s38 (upd (a 38) 0 (nI r))) ⟨rfl, rfl, rfl, rfl, fun i hi => absurd hi (by simp), fun i i1 i2 => by rw [pk_un i2, pk_un i1], fun i i1 i2 i3 => by rw [fset_n _ _ i3, fset_n _ _ i2], fun q hq => rfl, rfl⟩ ⟨rfl, trivial⟩ ((((sOff.rf.set (by omega) (by omega)).set (by omega) (by omega)).set (by omega) (by omega)).set (by omega) (by omega)) rfl
end MY2
