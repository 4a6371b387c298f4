
theorem gK0_lt (s : Int32) (r : Nat) : gK0 s r < 7 := by
  unfold gK0
  have h1 := ltN_lt s (k := 7) (by omega)
  have h2 := ltN_lt s (k := 3) (by omega)
  split <;> omega
theorem gKi_lt (s : Int32) (r : Nat) : gKi s r < 7 := by
  have := gK0_lt s r
  unfold gKi
  split <;> omega
theorem gKi_3 {s : Int32} {r : Nat} (h1 : 1 ≤ r) (h : gKi s r < 2) : 3 ≤ r := by
  unfold gKi at h
  by_cases c : r = 2 ∧ gK0 s r < 2
  · rw [if_pos c] at h; omega
  · rw [if_neg c] at h
    by_cases c1 : r = 1
    · subst c1; unfold gK0 at h; rw [if_neg (by omega)] at h; omega
    · have : ¬ r = 2 := fun e => c ⟨e, h⟩
      omega
theorem gKi_2 {s : Int32} {r : Nat} (h1 : 1 ≤ r) (h : gKi s r < 4) : 2 ≤ r := by
  by_cases c1 : r = 1
  · subst c1; unfold gKi gK0 at h; rw [if_neg (by omega), if_neg (by omega)] at h; omega
  · omega
theorem sAr2 (z : aZ) : sArr z (UInt32.ofNat 2).toNat = (7, sA2) := by
  rw [show (UInt32.ofNat 2).toNat = 2 by decide]; unfold sArr; rw [if_neg (by omega), if_neg (by omega), if_pos rfl]
theorem sAu2 : (UInt32.ofNat 2).toNat < 4 := by decide
theorem gTerm_len (s : Int32) (o : List Int32) : (gTerm s o).2.length ≤ o.length + 2 := by
  unfold gTerm
  split
  · simp
  · split
    · simp
    · split <;> simp
def rsum : List Nat → Nat
  | [] => 0
  | r :: rest => r + rsum rest
def rmin : List Nat → Prop
  | [] => True
  | r :: rest => 1 ≤ r ∧ rmin rest
theorem rmin_len : ∀ {st : List Nat}, rmin st → st.length ≤ rsum st
  | [], _ => Nat.le_refl _
  | r :: rest, h => by have := rmin_len h.2; have := h.1; simp only [List.length_cons, rsum]; omega
section GR
variable {n : Nat} {h : aH} {Q : aQ} {t x : Nat} {Rm B : Nat → Int32} {sd : Int32} {s0 : pT} {o : List Int32}
set_option maxRecDepth 100000 in
set_option maxHeartbeats 400000 in
theorem G_sign {r : Nat} {rest : List Nat} (hG : GrAt h t Rm rest.length sd) (hs : stk Rm rest) (hX : GxI h x B s0 o) (hd : t + 2 ≤ x ∨ x + 6 ≤ t) (hl : o.length + 5 ≤ 40) (hr1 : 1 ≤ r) (hmin : rmin rest) (hsum : r + rsum rest ≤ 9)
    (hq : ∀ h' Rm', GrAt h' t Rm' (gstep (r :: rest, sd, o)).1.length (gstep (r :: rest, sd, o)).2.1 → stk Rm' (gstep (r :: rest, sd, o)).1 → GxI h' x B s0 (gstep (r :: rest, sd, o)).2.2 → so2 h h' t x → Q none n h') : Ok 22 [.ref t, .ref x, .int (nI r)] n h Q := by
  have hlen := rmin_len hmin
  refine ok_of kMX2_growSign kCX2_growSign (Nat.le_of_ble_eq_true rfl) (fun z => ?_)
  change A z _ _ 0 0 _ 0 [some (.ref t), some (.ref x), some (.int (nI r)), none, none] [] _
  -- behind the sign's lot
  have k7 := gKi_lt (lcg sd) r
  have main : ∀ h1, GrAt h1 t Rm rest.length (lcg sd) → GxI h1 x B s0 o → so2 h h1 t x → A z 22 n 0 0 h1 35 [some (.ref t), some (.ref x), some (.int (nI r)), some (.int (nI (gKi (lcg sd) r))), none] [] Q := by
    intro h1 hG1 hX1 hO1
    obtain ⟨S, hx1, -⟩ := id hX1
    refine go_ok okF1 (C := cdX2_growSign) (by rfl) [57] 30 (by exact Nat.le_of_ble_eq_true rfl) ?_
    simp (maxSteps := 2000000) only [go, stp, inS, ↓reduceIte, Bool.false_eq_true, Nat.reduceLT, Nat.reduceEqDiff, Nat.reduceAdd, ldI, ldL, ldA, st1, st2, okS, List.getElem?_cons_zero, List.getElem?_cons_succ, List.length_cons, List.length_nil, List.set_cons_zero, List.set_cons_succ, callP, callF, popN, ct, Value.category, cI, List.getD_cons_zero, List.getD_cons_succ, and_self, and_true, true_and, Nat.zero_le, Nat.reduceLeDiff, Nat.add_zero, Nat.zero_add, List.nil_append, List.cons_append, Option.toList_some, Option.toList_none, List.append_nil, hset_ss, true_or, or_true, eq_self, beq_self_eq_true, List.drop_succ_cons, List.drop_zero, swT, swL, hset_ap, not_true_eq_false, not_false_eq_true, true_implies, false_implies, implies_true, Int32.reduceLE, Int32.reduceLT, Int32.reduceAdd, Int32.reduceSub, Int32.reduceOfInt, Int32.reduceToNatClampNeg, i10, i01, Nat.add_left_cancel_iff, Nat.left_eq_add, Nat.add_eq_left, cdX2_growSign, F1, hx1.1, show ¬ nI (gKi (lcg sd) r) < 0 from i_nn (by omega), i_cl (show gKi (lcg sd) r < 2147483648 by omega), sAr2, sAu2]
    refine ⟨fun c => absurd ((i_le (a := 7) (by omega) (by omega)).mp c) (by omega), fun _ => ⟨vp_in_nI (N := 7) (by omega) (by omega), ?_⟩⟩
    refine G_app hX1 (by omega) (fun h2 hX2 hO2 => ?_)
    have hG2 := hG1.kept (fun q a b => hO2 q (by omega))
    have hO2 := hO1.tx hO2
    unfold gstep at hq
    dsimp only at hq
    refine go_ok okF1 (C := cdX2_growSign) (by rfl) [] 30 (by exact Nat.le_of_ble_eq_true rfl) ?_
    simp (maxSteps := 2000000) only [go, stp, inS, ↓reduceIte, Bool.false_eq_true, Nat.reduceLT, Nat.reduceEqDiff, Nat.reduceAdd, ldI, ldL, ldA, st1, st2, okS, List.getElem?_cons_zero, List.getElem?_cons_succ, List.length_cons, List.length_nil, List.set_cons_zero, List.set_cons_succ, callP, callF, popN, ct, Value.category, cI, List.getD_cons_zero, List.getD_cons_succ, and_self, and_true, true_and, Nat.zero_le, Nat.reduceLeDiff, Nat.add_zero, Nat.zero_add, List.nil_append, List.cons_append, Option.toList_some, Option.toList_none, List.append_nil, hset_ss, true_or, or_true, eq_self, beq_self_eq_true, List.drop_succ_cons, List.drop_zero, swT, swL, hset_ap, not_true_eq_false, not_false_eq_true, true_implies, false_implies, implies_true, Int32.reduceLE, Int32.reduceLT, Int32.reduceAdd, Int32.reduceSub, Int32.reduceOfInt, Int32.reduceToNatClampNeg, i10, i01, Nat.add_left_cancel_iff, Nat.left_eq_add, Nat.add_eq_left, cdX2_growSign, F1, hG2.1]
    refine ⟨fun c2 => ?_, fun c2 => ?_⟩
    · have c2 : 2 ≤ gKi (lcg sd) r := (i_le (a := 2) (by omega) (by omega)).mp c2
      rw [if_neg (by omega)] at hq
      refine ⟨fun c4 => ?_, fun c4 => ?_⟩
      · have c4 : 4 ≤ gKi (lcg sd) r := (i_le (a := 4) (by omega) (by omega)).mp c4
        rw [if_neg (by omega)] at hq
        refine G_term hG2 hX2 hd (by simp; omega) (fun h3 hG3 hX3 hO3 => ?_)
        have hO3 := hO2.tr hO3
        refine go_ok okF1 (C := cdX2_growSign) (by rfl) [] 30 (by exact Nat.le_of_ble_eq_true rfl) ?_
        simp (maxSteps := 2000000) only [go, stp, inS, ↓reduceIte, Bool.false_eq_true, Nat.reduceLT, Nat.reduceEqDiff, Nat.reduceAdd, ldI, ldL, ldA, st1, st2, okS, List.getElem?_cons_zero, List.getElem?_cons_succ, List.length_cons, List.length_nil, List.set_cons_zero, List.set_cons_succ, callP, callF, popN, ct, Value.category, cI, List.getD_cons_zero, List.getD_cons_succ, and_self, and_true, true_and, Nat.zero_le, Nat.reduceLeDiff, Nat.add_zero, Nat.zero_add, List.nil_append, List.cons_append, Option.toList_some, Option.toList_none, List.append_nil, hset_ss, true_or, or_true, eq_self, beq_self_eq_true, List.drop_succ_cons, List.drop_zero, swT, swL, hset_ap, not_true_eq_false, not_false_eq_true, true_implies, false_implies, implies_true, Int32.reduceLE, Int32.reduceLT, Int32.reduceAdd, Int32.reduceSub, Int32.reduceOfInt, Int32.reduceToNatClampNeg, i10, i01, Nat.add_left_cancel_iff, Nat.left_eq_add, Nat.add_eq_left, cdX2_growSign, F1, hG3.1]
        refine G_term hG3 hX3 hd ?_ (fun h4 hG4 hX4 hO4 => ?_)
        · have := gTerm_len (lcg sd) (o ++ [sA2 (gKi (lcg sd) r)])
          simp at this; omega
        refine go_ok okF1 (C := cdX2_growSign) (by rfl) [] 30 (by exact Nat.le_of_ble_eq_true rfl) ?_
        simp (maxSteps := 2000000) only [go, stp, inS, ↓reduceIte, Bool.false_eq_true, Nat.reduceLT, Nat.reduceEqDiff, Nat.reduceAdd, ldI, ldL, ldA, st1, st2, okS, List.getElem?_cons_zero, List.getElem?_cons_succ, List.length_cons, List.length_nil, List.set_cons_zero, List.set_cons_succ, callP, callF, popN, ct, Value.category, cI, List.getD_cons_zero, List.getD_cons_succ, and_self, and_true, true_and, Nat.zero_le, Nat.reduceLeDiff, Nat.add_zero, Nat.zero_add, List.nil_append, List.cons_append, Option.toList_some, Option.toList_none, List.append_nil, hset_ss, true_or, or_true, eq_self, beq_self_eq_true, List.drop_succ_cons, List.drop_zero, swT, swL, hset_ap, not_true_eq_false, not_false_eq_true, true_implies, false_implies, implies_true, Int32.reduceLE, Int32.reduceLT, Int32.reduceAdd, Int32.reduceSub, Int32.reduceOfInt, Int32.reduceToNatClampNeg, i10, i01, Nat.add_left_cancel_iff, Nat.left_eq_add, Nat.add_eq_left, cdX2_growSign, F1]
        exact hq h4 Rm hG4 hs hX4 (hO3.tr hO4)
      · have c4 : gKi (lcg sd) r < 4 := by have := mt (i_le (a := 4) (b := gKi (lcg sd) r) (by omega) (by omega)).mpr c4; omega
        rw [if_pos c4] at hq
        rw [show nI r - 1 = nI (r - 1) from pk_sub (a := r) (b := 1) hr1]
        refine G_push hG2 (by omega) (fun h3 hG3 hO3 => ?_)
        refine go_ok okF1 (C := cdX2_growSign) (by rfl) [] 30 (by exact Nat.le_of_ble_eq_true rfl) ?_
        simp (maxSteps := 2000000) only [go, stp, inS, ↓reduceIte, Bool.false_eq_true, Nat.reduceLT, Nat.reduceEqDiff, Nat.reduceAdd, ldI, ldL, ldA, st1, st2, okS, List.getElem?_cons_zero, List.getElem?_cons_succ, List.length_cons, List.length_nil, List.set_cons_zero, List.set_cons_succ, callP, callF, popN, ct, Value.category, cI, List.getD_cons_zero, List.getD_cons_succ, and_self, and_true, true_and, Nat.zero_le, Nat.reduceLeDiff, Nat.add_zero, Nat.zero_add, List.nil_append, List.cons_append, Option.toList_some, Option.toList_none, List.append_nil, hset_ss, true_or, or_true, eq_self, beq_self_eq_true, List.drop_succ_cons, List.drop_zero, swT, swL, hset_ap, not_true_eq_false, not_false_eq_true, true_implies, false_implies, implies_true, Int32.reduceLE, Int32.reduceLT, Int32.reduceAdd, Int32.reduceSub, Int32.reduceOfInt, Int32.reduceToNatClampNeg, i10, i01, Nat.add_left_cancel_iff, Nat.left_eq_add, Nat.add_eq_left, cdX2_growSign, F1]
        exact hq h3 _ hG3 ⟨pk_us, stk_upd (Nat.le_refl _) hs⟩ (hX2.kept (fun q a b => hO3 q (by omega))) (hO2.g hO3)
    · have c2 : gKi (lcg sd) r < 2 := by have := mt (i_le (a := 2) (b := gKi (lcg sd) r) (by omega) (by omega)).mpr c2; omega
      rw [if_pos c2] at hq
      have h3r := gKi_3 hr1 c2
      rw [show nI r - 2 = nI (r - 2) from pk_sub (a := r) (b := 2) (by omega)]
      have hlt := ltN_lt (lcg (lcg sd)) (k := r - 2) (by omega)
      refine G_lot hG2 (by omega) (by omega) (fun h3 hG3 hO3 => ?_)
      have hX3 := hX2.kept (fun q a b => hO3 q (by omega))
      have hO3 := hO2.g hO3
      refine go_ok okF1 (C := cdX2_growSign) (by rfl) [] 30 (by exact Nat.le_of_ble_eq_true rfl) ?_
      simp (maxSteps := 2000000) only [go, stp, inS, ↓reduceIte, Bool.false_eq_true, Nat.reduceLT, Nat.reduceEqDiff, Nat.reduceAdd, ldI, ldL, ldA, st1, st2, okS, List.getElem?_cons_zero, List.getElem?_cons_succ, List.length_cons, List.length_nil, List.set_cons_zero, List.set_cons_succ, callP, callF, popN, ct, Value.category, cI, List.getD_cons_zero, List.getD_cons_succ, and_self, and_true, true_and, Nat.zero_le, Nat.reduceLeDiff, Nat.add_zero, Nat.zero_add, List.nil_append, List.cons_append, Option.toList_some, Option.toList_none, List.append_nil, hset_ss, true_or, or_true, eq_self, beq_self_eq_true, List.drop_succ_cons, List.drop_zero, swT, swL, hset_ap, not_true_eq_false, not_false_eq_true, true_implies, false_implies, implies_true, Int32.reduceLE, Int32.reduceLT, Int32.reduceAdd, Int32.reduceSub, Int32.reduceOfInt, Int32.reduceToNatClampNeg, i10, i01, Nat.add_left_cancel_iff, Nat.left_eq_add, Nat.add_eq_left, cdX2_growSign, F1, hG3.1]
      rw [show nI r - 1 = nI (r - 1) from pk_sub (a := r) (b := 1) hr1, show (1 : Int32) + nI (ltN (lcg (lcg sd)) (r - 2)) = nI (1 + ltN (lcg (lcg sd)) (r - 2)) from nI_add 1 _, pk_sub (by omega)]
      refine G_push hG3 (by omega) (fun h4 hG4 hO4 => ?_)
      have hX4 := hX3.kept (fun q a b => hO4 q (by omega))
      have hO4 := hO3.g hO4
      refine go_ok okF1 (C := cdX2_growSign) (by rfl) [] 30 (by exact Nat.le_of_ble_eq_true rfl) ?_
      simp (maxSteps := 2000000) only [go, stp, inS, ↓reduceIte, Bool.false_eq_true, Nat.reduceLT, Nat.reduceEqDiff, Nat.reduceAdd, ldI, ldL, ldA, st1, st2, okS, List.getElem?_cons_zero, List.getElem?_cons_succ, List.length_cons, List.length_nil, List.set_cons_zero, List.set_cons_succ, callP, callF, popN, ct, Value.category, cI, List.getD_cons_zero, List.getD_cons_succ, and_self, and_true, true_and, Nat.zero_le, Nat.reduceLeDiff, Nat.add_zero, Nat.zero_add, List.nil_append, List.cons_append, Option.toList_some, Option.toList_none, List.append_nil, hset_ss, true_or, or_true, eq_self, beq_self_eq_true, List.drop_succ_cons, List.drop_zero, swT, swL, hset_ap, not_true_eq_false, not_false_eq_true, true_implies, false_implies, implies_true, Int32.reduceLE, Int32.reduceLT, Int32.reduceAdd, Int32.reduceSub, Int32.reduceOfInt, Int32.reduceToNatClampNeg, i10, i01, Nat.add_left_cancel_iff, Nat.left_eq_add, Nat.add_eq_left, cdX2_growSign, F1, hG4.1]
      refine G_push hG4 (by omega) (fun h5 hG5 hO5 => ?_)
      refine go_ok okF1 (C := cdX2_growSign) (by rfl) [] 30 (by exact Nat.le_of_ble_eq_true rfl) ?_
      simp (maxSteps := 2000000) only [go, stp, inS, ↓reduceIte, Bool.false_eq_true, Nat.reduceLT, Nat.reduceEqDiff, Nat.reduceAdd, ldI, ldL, ldA, st1, st2, okS, List.getElem?_cons_zero, List.getElem?_cons_succ, List.length_cons, List.length_nil, List.set_cons_zero, List.set_cons_succ, callP, callF, popN, ct, Value.category, cI, List.getD_cons_zero, List.getD_cons_succ, and_self, and_true, true_and, Nat.zero_le, Nat.reduceLeDiff, Nat.add_zero, Nat.zero_add, List.nil_append, List.cons_append, Option.toList_some, Option.toList_none, List.append_nil, hset_ss, true_or, or_true, eq_self, beq_self_eq_true, List.drop_succ_cons, List.drop_zero, swT, swL, hset_ap, not_true_eq_false, not_false_eq_true, true_implies, false_implies, implies_true, Int32.reduceLE, Int32.reduceLT, Int32.reduceAdd, Int32.reduceSub, Int32.reduceOfInt, Int32.reduceToNatClampNeg, i10, i01, Nat.add_left_cancel_iff, Nat.left_eq_add, Nat.add_eq_left, cdX2_growSign, F1]
      exact hq h5 _ hG5 ⟨pk_us, by rw [pk_un (by simp)]; exact pk_us, stk_upd (by simp) (stk_upd (Nat.le_refl _) hs)⟩ (hX4.kept (fun q a b => hO5 q (by omega))) (hO4.g hO5)
  have mid : ∀ h1, GrAt h1 t Rm rest.length (lcg sd) → GxI h1 x B s0 o → so2 h h1 t x → A z 22 n 0 0 h1 21 [some (.ref t), some (.ref x), some (.int (nI r)), none, none] [.int (nI (gK0 (lcg sd) r))] Q := by
    intro h1 hG1 hX1 hO1
    have k07 := gK0_lt (lcg sd) r
    have main := main h1 hG1 hX1 hO1
    unfold gKi at main
    refine go_ok okF1 (C := cdX2_growSign) (by rfl) [35] 30 (by exact Nat.le_of_ble_eq_true rfl) ?_
    simp (maxSteps := 2000000) only [go, stp, inS, ↓reduceIte, Bool.false_eq_true, Nat.reduceLT, Nat.reduceEqDiff, Nat.reduceAdd, ldI, ldL, ldA, st1, st2, okS, List.getElem?_cons_zero, List.getElem?_cons_succ, List.length_cons, List.length_nil, List.set_cons_zero, List.set_cons_succ, callP, callF, popN, ct, Value.category, cI, List.getD_cons_zero, List.getD_cons_succ, and_self, and_true, true_and, Nat.zero_le, Nat.reduceLeDiff, Nat.add_zero, Nat.zero_add, List.nil_append, List.cons_append, Option.toList_some, Option.toList_none, List.append_nil, hset_ss, true_or, or_true, eq_self, beq_self_eq_true, List.drop_succ_cons, List.drop_zero, swT, swL, hset_ap, not_true_eq_false, not_false_eq_true, true_implies, false_implies, implies_true, Int32.reduceLE, Int32.reduceLT, Int32.reduceAdd, Int32.reduceSub, Int32.reduceOfInt, Int32.reduceToNatClampNeg, i10, i01, Nat.add_left_cancel_iff, Nat.left_eq_add, Nat.add_eq_left, cdX2_growSign, F1]
    refine ⟨fun c => ?_, fun c => ⟨fun c2 => ?_, fun c2 => ?_⟩⟩
    · rw [if_neg (fun q => c ((i_eq (b := 2) (by omega) (by omega)).mpr q.1))] at main; exact main
    · have c2 : 2 ≤ gK0 (lcg sd) r := (i_le (a := 2) (by omega) (by omega)).mp c2
      rw [if_neg (by omega)] at main; exact main
    · have c : r = 2 := (i_eq (b := 2) (by omega) (by omega)).mp c
      have c2 : gK0 (lcg sd) r < 2 := by have := mt (i_le (a := 2) (b := gK0 (lcg sd) r) (by omega) (by omega)).mpr c2; omega
      rw [if_pos ⟨c, c2⟩] at main
      rw [show nI (gK0 (lcg sd) r) + 2 = nI (gK0 (lcg sd) r + 2) from nI_add _ 2]
      exact main
  unfold gK0 at mid
  refine go_ok okF1 (C := cdX2_growSign) (by rfl) [21] 30 (by exact Nat.le_of_ble_eq_true rfl) ?_
  simp (maxSteps := 2000000) only [go, stp, inS, ↓reduceIte, Bool.false_eq_true, Nat.reduceLT, Nat.reduceEqDiff, Nat.reduceAdd, ldI, ldL, ldA, st1, st2, okS, List.getElem?_cons_zero, List.getElem?_cons_succ, List.length_cons, List.length_nil, List.set_cons_zero, List.set_cons_succ, callP, callF, popN, ct, Value.category, cI, List.getD_cons_zero, List.getD_cons_succ, and_self, and_true, true_and, Nat.zero_le, Nat.reduceLeDiff, Nat.add_zero, Nat.zero_add, List.nil_append, List.cons_append, Option.toList_some, Option.toList_none, List.append_nil, hset_ss, true_or, or_true, eq_self, beq_self_eq_true, List.drop_succ_cons, List.drop_zero, swT, swL, hset_ap, not_true_eq_false, not_false_eq_true, true_implies, false_implies, implies_true, Int32.reduceLE, Int32.reduceLT, Int32.reduceAdd, Int32.reduceSub, Int32.reduceOfInt, Int32.reduceToNatClampNeg, i10, i01, Nat.add_left_cancel_iff, Nat.left_eq_add, Nat.add_eq_left, cdX2_growSign, F1, hG.1]
  refine ⟨fun c => ?_, fun c => ?_⟩
  · have c : r ≤ 1 := (i_le (b := 1) (by omega) (by omega)).mp c
    refine G_lot (k := 3) hG (by omega) (by omega) (fun h1 hG1 hO1 => ?_)
    refine go_ok okF1 (C := cdX2_growSign) (by rfl) [21] 30 (by exact Nat.le_of_ble_eq_true rfl) ?_
    simp (maxSteps := 2000000) only [go, stp, inS, ↓reduceIte, Bool.false_eq_true, Nat.reduceLT, Nat.reduceEqDiff, Nat.reduceAdd, ldI, ldL, ldA, st1, st2, okS, List.getElem?_cons_zero, List.getElem?_cons_succ, List.length_cons, List.length_nil, List.set_cons_zero, List.set_cons_succ, callP, callF, popN, ct, Value.category, cI, List.getD_cons_zero, List.getD_cons_succ, and_self, and_true, true_and, Nat.zero_le, Nat.reduceLeDiff, Nat.add_zero, Nat.zero_add, List.nil_append, List.cons_append, Option.toList_some, Option.toList_none, List.append_nil, hset_ss, true_or, or_true, eq_self, beq_self_eq_true, List.drop_succ_cons, List.drop_zero, swT, swL, hset_ap, not_true_eq_false, not_false_eq_true, true_implies, false_implies, implies_true, Int32.reduceLE, Int32.reduceLT, Int32.reduceAdd, Int32.reduceSub, Int32.reduceOfInt, Int32.reduceToNatClampNeg, i10, i01, Nat.add_left_cancel_iff, Nat.left_eq_add, Nat.add_eq_left, cdX2_growSign, F1]
    have := mid h1 hG1 (hX.kept (fun q a b => hO1 q (by omega))) (so2.rf.g hO1)
    rw [if_neg (by omega)] at this
    rw [show (4 : Int32) + nI (ltN (lcg sd) 3) = nI (4 + ltN (lcg sd) 3) from nI_add 4 _]
    exact this
  · have c : 1 < r := by have := mt (i_le (a := r) (b := 1) (by omega) (by omega)).mpr c; omega
    refine G_lot (k := 7) hG (by omega) (by omega) (fun h1 hG1 hO1 => ?_)
    refine go_ok okF1 (C := cdX2_growSign) (by rfl) [21] 30 (by exact Nat.le_of_ble_eq_true rfl) ?_
    simp (maxSteps := 2000000) only [go, stp, inS, ↓reduceIte, Bool.false_eq_true, Nat.reduceLT, Nat.reduceEqDiff, Nat.reduceAdd, ldI, ldL, ldA, st1, st2, okS, List.getElem?_cons_zero, List.getElem?_cons_succ, List.length_cons, List.length_nil, List.set_cons_zero, List.set_cons_succ, callP, callF, popN, ct, Value.category, cI, List.getD_cons_zero, List.getD_cons_succ, and_self, and_true, true_and, Nat.zero_le, Nat.reduceLeDiff, Nat.add_zero, Nat.zero_add, List.nil_append, List.cons_append, Option.toList_some, Option.toList_none, List.append_nil, hset_ss, true_or, or_true, eq_self, beq_self_eq_true, List.drop_succ_cons, List.drop_zero, swT, swL, hset_ap, not_true_eq_false, not_false_eq_true, true_implies, false_implies, implies_true, Int32.reduceLE, Int32.reduceLT, Int32.reduceAdd, Int32.reduceSub, Int32.reduceOfInt, Int32.reduceToNatClampNeg, i10, i01, Nat.add_left_cancel_iff, Nat.left_eq_add, Nat.add_eq_left, cdX2_growSign, F1]
    have := mid h1 hG1 (hX.kept (fun q a b => hO1 q (by omega))) (so2.rf.g hO1)
    rw [if_pos c] at this
    exact this
end GR
