
section TX2
variable {n : Nat} {h : aH} {Q : aQ} {t : Nat} {B G S L R : Nat → Int32} {len : Int32} {ac ot om mi : Nat} {sk : Int32}
theorem sOff.set {h h' : aH} {a b k : Nat} {c : aC} (hO : sOff h h' a b) (h1 : a ≤ k) (h2 : k < b) : sOff h (hset h' k c) a b := fun q hq => by rw [hset_n _ _ (by omega)]; exact hO q hq
set_option maxRecDepth 100000 in
set_option maxHeartbeats 400000 in
theorem X_readSign {b : Int32} (hT : TxAt h t B G S L R len (nI ac) (nI ot) (nI om) (nI mi) sk) (hac : ac < 40) (hot : ot ≤ 41)
    (hq0 : (ot = 0 ∨ ¬ (isTw b ∨ isOn b ∨ isCm b)) → Q (some (.int 0)) n h)
    (hq1 : 0 < ot → isTw b → ∀ h', TxAt h' t B (upd G ac b) S L R len (nI (ac + 1)) (nI (ot + 1)) (nI om) (nI mi) sk → sOff h h' t (t + 6) → Q (some (.int 1)) n h')
    (hq2 : 0 < ot → isOn b → ∀ h', TxAt h' t B (upd G ac b) S L R len (nI (ac + 1)) (nI ot) (nI om) (nI mi) sk → sOff h h' t (t + 6) → Q (some (.int 1)) n h')
    (hq3 : 0 < ot → isCm b → ∀ h', TxAt h' t B (upd G ac b) S L R len (nI (ac + 1)) (nI (ot - 1)) 2 (nI mi) sk → sOff h h' t (t + 6) → Q (some (.int 1)) n h') : Ok 73 [.ref t, .int b] n h Q := by
  obtain ⟨e0, e1, e2, e3, e4, e5⟩ := hT
  have a0 : ¬ nI ac < 0 := i_nn (by omega)
  have a1 : nI ac < 40 := (i_lt (b := 40) (by omega) (by omega)).mpr hac
  have a2 : (nI ot < 1) ↔ ot = 0 := by rw [show (1 : Int32) = nI 1 from rfl, i_lt (by omega) (by omega)]; omega
  have hin : vp_in (nI ac) 40 := vp_in_nI (by omega) (by omega)
  have fin : ∀ z (ot' om' : Int32) (h' : aH), TxAt h' t B G S L R len (nI ac) ot' om' (nI mi) sk → sOff h h' t (t + 6) → (∀ h'', TxAt h'' t B (upd G ac b) S L R len (nI (ac + 1)) ot' om' (nI mi) sk → sOff h h'' t (t + 6) → Q (some (.int 1)) n h'') → A z 73 n 0 0 h' 128 [some (.ref t), some (.int b)] [] Q := by
    intro z ot' om' h' hT' hO hh
    obtain ⟨f0, f1, f2, f3, f4, f5⟩ := hT'
    refine go_ok okF1 (C := cdX9_readSign) (by rfl) [] 40 (by exact Nat.le_of_ble_eq_true rfl) ?_
    simp (maxSteps := 2000000) only [go, stp, inS, ↓reduceIte, Bool.false_eq_true, Nat.reduceLT, Nat.reduceEqDiff, Nat.reduceAdd, ldI, ldL, ldA, st1, st2, okS, List.getElem?_cons_zero, List.getElem?_cons_succ, List.length_cons, List.length_nil, List.set_cons_zero, List.set_cons_succ, callP, callF, popN, ct, Value.category, cI, List.getD_cons_zero, List.getD_cons_succ, and_self, and_true, true_and, Nat.zero_le, Nat.reduceLeDiff, Nat.add_zero, Nat.zero_add, List.nil_append, List.cons_append, Option.toList_some, Option.toList_none, List.append_nil, hset_ss, true_or, or_true, eq_self, beq_self_eq_true, List.drop_succ_cons, List.drop_zero, swT, swL, hset_ap, not_true_eq_false, not_false_eq_true, true_implies, false_implies, implies_true, Int32.reduceLE, Int32.reduceLT, Int32.reduceAdd, Int32.reduceSub, Int32.reduceOfInt, Int32.reduceToNatClampNeg, i10, i01, Nat.add_left_cancel_iff, Nat.left_eq_add, Nat.add_eq_left, cdX9_readSign, F1, f0, f2, nI_1, i_cl (show ac < 2147483648 by omega)]
    exact ⟨hin, hh _ ⟨by simp [hset_ap], by simp [hset_ap, f1], by simp [hset_ap], by simp [hset_ap, f3], by simp [hset_ap, f4], by simp [hset_ap, f5]⟩ ((hO.set (by omega) (by omega)).set (by omega) (by omega))⟩
  have hT0 : TxAt h t B G S L R len (nI ac) (nI ot) (nI om) (nI mi) sk := ⟨e0, e1, e2, e3, e4, e5⟩
  have n1 : 0 < ot → nI ot - 1 = nI (ot - 1) := fun hp => pk_sub (a := ot) (b := 1) (by omega)
  have k0 : ∀ z, (ot = 0 ∨ ¬ (isTw b ∨ isOn b ∨ isCm b)) → A z 73 n 0 0 h 126 [some (.ref t), some (.int b)] [] Q := fun z hn => by
    refine go_ok okF1 (C := cdX9_readSign) (by rfl) [] 40 (by exact Nat.le_of_ble_eq_true rfl) ?_
    simp (maxSteps := 2000000) only [go, stp, inS, ↓reduceIte, Bool.false_eq_true, Nat.reduceLT, Nat.reduceEqDiff, Nat.reduceAdd, ldI, ldL, ldA, st1, st2, okS, List.getElem?_cons_zero, List.getElem?_cons_succ, List.length_cons, List.length_nil, List.set_cons_zero, List.set_cons_succ, callP, callF, popN, ct, Value.category, cI, List.getD_cons_zero, List.getD_cons_succ, and_self, and_true, true_and, Nat.zero_le, Nat.reduceLeDiff, Nat.add_zero, Nat.zero_add, List.nil_append, List.cons_append, Option.toList_some, Option.toList_none, List.append_nil, hset_ss, true_or, or_true, eq_self, beq_self_eq_true, List.drop_succ_cons, List.drop_zero, swT, swL, hset_ap, not_true_eq_false, not_false_eq_true, true_implies, false_implies, implies_true, Int32.reduceLE, Int32.reduceLT, Int32.reduceAdd, Int32.reduceSub, Int32.reduceOfInt, Int32.reduceToNatClampNeg, i10, i01, Nat.add_left_cancel_iff, Nat.left_eq_add, Nat.add_eq_left, cdX9_readSign, F1]
    exact hq0 hn
  have k2 : ∀ z, 0 < ot → isOn b → A z 73 n 0 0 h 105 [some (.ref t), some (.int b)] [] Q := fun z hpos hb => by
    refine go_ok okF1 (C := cdX9_readSign) (by rfl) [128] 40 (by exact Nat.le_of_ble_eq_true rfl) ?_
    simp (maxSteps := 2000000) only [go, stp, inS, ↓reduceIte, Bool.false_eq_true, Nat.reduceLT, Nat.reduceEqDiff, Nat.reduceAdd, ldI, ldL, ldA, st1, st2, okS, List.getElem?_cons_zero, List.getElem?_cons_succ, List.length_cons, List.length_nil, List.set_cons_zero, List.set_cons_succ, callP, callF, popN, ct, Value.category, cI, List.getD_cons_zero, List.getD_cons_succ, and_self, and_true, true_and, Nat.zero_le, Nat.reduceLeDiff, Nat.add_zero, Nat.zero_add, List.nil_append, List.cons_append, Option.toList_some, Option.toList_none, List.append_nil, hset_ss, true_or, or_true, eq_self, beq_self_eq_true, List.drop_succ_cons, List.drop_zero, swT, swL, hset_ap, not_true_eq_false, not_false_eq_true, true_implies, false_implies, implies_true, Int32.reduceLE, Int32.reduceLT, Int32.reduceAdd, Int32.reduceSub, Int32.reduceOfInt, Int32.reduceToNatClampNeg, i10, i01, Nat.add_left_cancel_iff, Nat.left_eq_add, Nat.add_eq_left, cdX9_readSign, F1]
    exact fin z _ _ h hT0 sOff.rf (hq2 hpos hb)
  have k1 : ∀ z, 0 < ot → isTw b → A z 73 n 0 0 h 92 [some (.ref t), some (.int b)] [] Q := fun z hpos hb => by
    refine go_ok okF1 (C := cdX9_readSign) (by rfl) [128] 40 (by exact Nat.le_of_ble_eq_true rfl) ?_
    simp (maxSteps := 2000000) only [go, stp, inS, ↓reduceIte, Bool.false_eq_true, Nat.reduceLT, Nat.reduceEqDiff, Nat.reduceAdd, ldI, ldL, ldA, st1, st2, okS, List.getElem?_cons_zero, List.getElem?_cons_succ, List.length_cons, List.length_nil, List.set_cons_zero, List.set_cons_succ, callP, callF, popN, ct, Value.category, cI, List.getD_cons_zero, List.getD_cons_succ, and_self, and_true, true_and, Nat.zero_le, Nat.reduceLeDiff, Nat.add_zero, Nat.zero_add, List.nil_append, List.cons_append, Option.toList_some, Option.toList_none, List.append_nil, hset_ss, true_or, or_true, eq_self, beq_self_eq_true, List.drop_succ_cons, List.drop_zero, swT, swL, hset_ap, not_true_eq_false, not_false_eq_true, true_implies, false_implies, implies_true, Int32.reduceLE, Int32.reduceLT, Int32.reduceAdd, Int32.reduceSub, Int32.reduceOfInt, Int32.reduceToNatClampNeg, i10, i01, Nat.add_left_cancel_iff, Nat.left_eq_add, Nat.add_eq_left, cdX9_readSign, F1, e0, nI_1]
    exact fin z _ _ _ ⟨by simp [hset_ap], by simp [hset_ap, e1], by simp [hset_ap, e2], by simp [hset_ap, e3], by simp [hset_ap, e4], by simp [hset_ap, e5]⟩ (sOff.rf.set (by omega) (by omega)) (hq1 hpos hb)
  have k3 : ∀ z, 0 < ot → isCm b → A z 73 n 0 0 h 108 [some (.ref t), some (.int b)] [] Q := fun z hpos hb => by
    refine go_ok okF1 (C := cdX9_readSign) (by rfl) [128] 40 (by exact Nat.le_of_ble_eq_true rfl) ?_
    simp (maxSteps := 2000000) only [go, stp, inS, ↓reduceIte, Bool.false_eq_true, Nat.reduceLT, Nat.reduceEqDiff, Nat.reduceAdd, ldI, ldL, ldA, st1, st2, okS, List.getElem?_cons_zero, List.getElem?_cons_succ, List.length_cons, List.length_nil, List.set_cons_zero, List.set_cons_succ, callP, callF, popN, ct, Value.category, cI, List.getD_cons_zero, List.getD_cons_succ, and_self, and_true, true_and, Nat.zero_le, Nat.reduceLeDiff, Nat.add_zero, Nat.zero_add, List.nil_append, List.cons_append, Option.toList_some, Option.toList_none, List.append_nil, hset_ss, true_or, or_true, eq_self, beq_self_eq_true, List.drop_succ_cons, List.drop_zero, swT, swL, hset_ap, not_true_eq_false, not_false_eq_true, true_implies, false_implies, implies_true, Int32.reduceLE, Int32.reduceLT, Int32.reduceAdd, Int32.reduceSub, Int32.reduceOfInt, Int32.reduceToNatClampNeg, i10, i01, Nat.add_left_cancel_iff, Nat.left_eq_add, Nat.add_eq_left, cdX9_readSign, F1, e0, n1 hpos]
    exact fin z _ _ _ ⟨by simp [hset_ap], by simp [hset_ap, e1], by simp [hset_ap, e2], by simp [hset_ap, e3], by simp [hset_ap, e4], by simp [hset_ap, e5]⟩ (sOff.rf.set (by omega) (by omega)) (hq3 hpos hb)
  refine ok_of kMX9_readSign kCX9_readSign (Nat.le_of_ble_eq_true rfl) (fun z => ?_)
  change A z _ _ 0 0 _ 0 [some (.ref t), some (.int b)] [] _
  refine go_ok okF1 (C := cdX9_readSign) (by rfl) [] 40 (by exact Nat.le_of_ble_eq_true rfl) ?_
  simp (maxSteps := 2000000) only [go, stp, inS, ↓reduceIte, Bool.false_eq_true, Nat.reduceLT, Nat.reduceEqDiff, Nat.reduceAdd, ldI, ldL, ldA, st1, st2, okS, List.getElem?_cons_zero, List.getElem?_cons_succ, List.length_cons, List.length_nil, List.set_cons_zero, List.set_cons_succ, callP, callF, popN, ct, Value.category, cI, List.getD_cons_zero, List.getD_cons_succ, and_self, and_true, true_and, Nat.zero_le, Nat.reduceLeDiff, Nat.add_zero, Nat.zero_add, List.nil_append, List.cons_append, Option.toList_some, Option.toList_none, List.append_nil, hset_ss, true_or, or_true, eq_self, beq_self_eq_true, List.drop_succ_cons, List.drop_zero, swT, swL, hset_ap, not_true_eq_false, not_false_eq_true, true_implies, false_implies, implies_true, Int32.reduceLE, Int32.reduceLT, Int32.reduceAdd, Int32.reduceSub, Int32.reduceOfInt, Int32.reduceToNatClampNeg, i10, i01, Nat.add_left_cancel_iff, Nat.left_eq_add, Nat.add_eq_left, cdX9_readSign, F1, e0, a0, a1, a2]
  refine ⟨fun c => hq0 (Or.inl c), fun c => ?_⟩
  have hpos : 0 < ot := by omega
  refine ⟨fun d1 => k2 z hpos (Or.inl d1), fun d1 => ⟨fun d2 => k1 z hpos (Or.inl d2), fun d2 => ⟨fun d3 => k3 z hpos (Or.inl d3), fun d3 => ⟨fun d4 => k3 z hpos (Or.inr (Or.inl d4)), fun d4 => ⟨fun d5 => k3 z hpos (Or.inr (Or.inr d5)), fun d5 => ⟨fun d6 => k2 z hpos (Or.inr d6), fun d6 => ⟨fun d7 => k1 z hpos (Or.inr d7), fun d7 => k0 z (Or.inr ?_)⟩⟩⟩⟩⟩⟩⟩
  unfold isTw isOn isCm
  simp [d1, d2, d3, d4, d5, d6, d7]
set_option maxRecDepth 100000 in
set_option maxHeartbeats 400000 in
theorem X_readTerm {b : Int32} (hT : TxAt h t B G S L R len (nI ac) (nI ot) (nI om) (nI mi) sk) (ha0 : 0 < ac) (hac : ac ≤ 40) (hom : 0 < om) (hom2 : om ≤ 2) (hmi : mi ≤ 1)
    (hq0 : b = 45 → mi = 0 → ∀ h', TxAt h' t B G S L R len (nI ac) (nI ot) (nI om) (nI 1) sk → sOff h h' t (t + 6) → Q (some (.int 1)) n h')
    (hq1 : ¬ (b = 45 ∧ mi = 0) → tmO mi b = 1000 → Q (some (.int 0)) n h)
    (hq2 : ¬ (b = 45 ∧ mi = 0) → ¬ tmO mi b = 1000 → om = 2 → ∀ h', TxAt h' t B G S (upd L (ac - 1) (tmO mi b)) R len (nI ac) (nI ot) (nI 1) (nI 0) sk → sOff h h' t (t + 6) → Q (some (.int 1)) n h')
    (hq3 : ¬ (b = 45 ∧ mi = 0) → ¬ tmO mi b = 1000 → om = 1 → ∀ h', TxAt h' t B G S L (upd R (ac - 1) (tmO mi b)) len (nI ac) (nI ot) (nI 0) (nI 0) sk → sOff h h' t (t + 6) → Q (some (.int 1)) n h') : Ok 74 [.ref t, .int b] n h Q := by
  have hT0 := hT
  obtain ⟨e0, e1, e2, e3, e4, e5⟩ := hT
  have hm0 : nI mi = 0 ↔ mi = 0 := i_eq (b := 0) (by omega) (by omega)
  have hsub : nI ac - 1 = nI (ac - 1) := pk_sub (a := ac) (b := 1) (by omega)
  have a0 : ¬ nI (ac - 1) < 0 := i_nn (by omega)
  have a1 : nI (ac - 1) < 40 := (i_lt (b := 40) (by omega) (by omega)).mpr (by omega)
  have hin : vp_in (nI (ac - 1)) 40 := vp_in_nI (by omega) (by omega)
  have h2 : nI om = 2 ↔ om = 2 := i_eq (b := 2) (by omega) (by omega)
  have hmain : ¬ (b = 45 ∧ mi = 0) → A default 74 n 0 0 h 20 [some (.ref t), some (.int b), none, none] [] Q → True := fun _ _ => trivial
  have main : ∀ z, ¬ (b = 45 ∧ mi = 0) → A z 74 n 0 0 h 20 [some (.ref t), some (.int b), none, none] [] Q := by
    intro z hb
    refine go_ok okF1 (C := cdX9_readTerm) (by rfl) [] 40 (by exact Nat.le_of_ble_eq_true rfl) ?_
    simp (maxSteps := 2000000) only [go, stp, inS, ↓reduceIte, Bool.false_eq_true, Nat.reduceLT, Nat.reduceEqDiff, Nat.reduceAdd, ldI, ldL, ldA, st1, st2, okS, List.getElem?_cons_zero, List.getElem?_cons_succ, List.length_cons, List.length_nil, List.set_cons_zero, List.set_cons_succ, callP, callF, popN, ct, Value.category, cI, List.getD_cons_zero, List.getD_cons_succ, and_self, and_true, true_and, Nat.zero_le, Nat.reduceLeDiff, Nat.add_zero, Nat.zero_add, List.nil_append, List.cons_append, Option.toList_some, Option.toList_none, List.append_nil, hset_ss, true_or, or_true, eq_self, beq_self_eq_true, List.drop_succ_cons, List.drop_zero, swT, swL, hset_ap, not_true_eq_false, not_false_eq_true, true_implies, false_implies, implies_true, Int32.reduceLE, Int32.reduceLT, Int32.reduceAdd, Int32.reduceSub, Int32.reduceOfInt, Int32.reduceToNatClampNeg, i10, i01, Nat.add_left_cancel_iff, Nat.left_eq_add, Nat.add_eq_left, cdX9_readTerm, F1, e0]
    refine X_termOf rfl hmi hT0 ?_
    refine go_ok okF1 (C := cdX9_readTerm) (by rfl) [] 60 (by exact Nat.le_of_ble_eq_true rfl) ?_
    simp (maxSteps := 2000000) only [go, stp, inS, ↓reduceIte, Bool.false_eq_true, Nat.reduceLT, Nat.reduceEqDiff, Nat.reduceAdd, ldI, ldL, ldA, st1, st2, okS, List.getElem?_cons_zero, List.getElem?_cons_succ, List.length_cons, List.length_nil, List.set_cons_zero, List.set_cons_succ, callP, callF, popN, ct, Value.category, cI, List.getD_cons_zero, List.getD_cons_succ, and_self, and_true, true_and, Nat.zero_le, Nat.reduceLeDiff, Nat.add_zero, Nat.zero_add, List.nil_append, List.cons_append, Option.toList_some, Option.toList_none, List.append_nil, hset_ss, true_or, or_true, eq_self, beq_self_eq_true, List.drop_succ_cons, List.drop_zero, swT, swL, hset_ap, not_true_eq_false, not_false_eq_true, true_implies, false_implies, implies_true, Int32.reduceLE, Int32.reduceLT, Int32.reduceAdd, Int32.reduceSub, Int32.reduceOfInt, Int32.reduceToNatClampNeg, i10, i01, Nat.add_left_cancel_iff, Nat.left_eq_add, Nat.add_eq_left, cdX9_readTerm, F1, e0, e4, e5, hsub, a0, a1, hin, h2, i_cl (show ac - 1 < 2147483648 by omega)]
    refine ⟨fun c => hq1 hb c, fun c => ⟨fun c2 => ?_, fun c2 => ?_⟩⟩
    · have : om = 1 := by omega
      subst this
      exact hq3 hb c rfl _ ⟨by simp [hset_ap]; try decide, by simp [hset_ap, e1], by simp [hset_ap, e2], by simp [hset_ap, e3], by simp [hset_ap, e4], by simp [hset_ap]⟩ ((sOff.rf.set (by omega) (by omega)).set (by omega) (by omega))
    · subst c2
      exact hq2 hb c rfl _ ⟨by simp [hset_ap]; try decide, by simp [hset_ap, e1], by simp [hset_ap, e2], by simp [hset_ap, e3], by simp [hset_ap], by simp [hset_ap, e5]⟩ ((sOff.rf.set (by omega) (by omega)).set (by omega) (by omega))
  clear hmain
  refine ok_of kMX9_readTerm kCX9_readTerm (Nat.le_of_ble_eq_true rfl) (fun z => ?_)
  change A z _ _ 0 0 _ 0 [some (.ref t), some (.int b), none, none] [] _
  refine go_ok okF1 (C := cdX9_readTerm) (by rfl) [20] 40 (by exact Nat.le_of_ble_eq_true rfl) ?_
  simp (maxSteps := 2000000) only [go, stp, inS, ↓reduceIte, Bool.false_eq_true, Nat.reduceLT, Nat.reduceEqDiff, Nat.reduceAdd, ldI, ldL, ldA, st1, st2, okS, List.getElem?_cons_zero, List.getElem?_cons_succ, List.length_cons, List.length_nil, List.set_cons_zero, List.set_cons_succ, callP, callF, popN, ct, Value.category, cI, List.getD_cons_zero, List.getD_cons_succ, and_self, and_true, true_and, Nat.zero_le, Nat.reduceLeDiff, Nat.add_zero, Nat.zero_add, List.nil_append, List.cons_append, Option.toList_some, Option.toList_none, List.append_nil, hset_ss, true_or, or_true, eq_self, beq_self_eq_true, List.drop_succ_cons, List.drop_zero, swT, swL, hset_ap, not_true_eq_false, not_false_eq_true, true_implies, false_implies, implies_true, Int32.reduceLE, Int32.reduceLT, Int32.reduceAdd, Int32.reduceSub, Int32.reduceOfInt, Int32.reduceToNatClampNeg, i10, i01, Nat.add_left_cancel_iff, Nat.left_eq_add, Nat.add_eq_left, cdX9_readTerm, F1, e0, hm0]
  refine ⟨fun c => main z (fun q => c q.1), fun c => ⟨fun c2 => main z (fun q => c2 q.2), fun c2 => ?_⟩⟩
  exact hq0 c c2 _ ⟨by simp [hset_ap]; try decide, by simp [hset_ap, e1], by simp [hset_ap, e2], by simp [hset_ap, e3], by simp [hset_ap, e4], by simp [hset_ap, e5]⟩ (sOff.rf.set (by omega) (by omega))
set_option maxRecDepth 100000 in
set_option maxHeartbeats 400000 in
theorem X_measure (hT : TxAt h t B G S L R len (nI ac) (nI ot) (nI om) (nI mi) sk) (hac : ac ≤ 40) (hW : WFG G ac)
    (hq : ∀ h' S', TxAt h' t B G S' L R len (nI ac) (nI ot) (nI om) (nI mi) sk → (∀ k, k < ac → S' k = nI (sz G ac k)) → sOff h h' t (t + 6) → Q none n h') : Ok 76 [.ref t] n h Q := by
  have hmin : (if 40 < nI ac then (40 : Int32) else nI ac) = nI ac := if_neg (by rw [show (40 : Int32) = nI 40 from rfl, i_lt (by omega) (by omega)]; omega)
  have e0 := hT.1
  refine ok_of kMX9_measure kCX9_measure (Nat.le_of_ble_eq_true rfl) (fun z => ?_)
  change A z _ _ 0 0 _ 0 [some (.ref t), none, none, none] [] _
  refine go_ok okF1 (C := cdX9_measure) (by rfl) [12] 20 (by exact Nat.le_of_ble_eq_true rfl) ?_
  simp (maxSteps := 2000000) only [go, stp, inS, ↓reduceIte, Bool.false_eq_true, Nat.reduceLT, Nat.reduceEqDiff, Nat.reduceAdd, ldI, ldL, ldA, st1, st2, okS, List.getElem?_cons_zero, List.getElem?_cons_succ, List.length_cons, List.length_nil, List.set_cons_zero, List.set_cons_succ, callP, callF, popN, ct, Value.category, cI, List.getD_cons_zero, List.getD_cons_succ, and_self, and_true, true_and, Nat.zero_le, Nat.reduceLeDiff, Nat.add_zero, Nat.zero_add, List.nil_append, List.cons_append, Option.toList_some, Option.toList_none, List.append_nil, hset_ss, true_or, or_true, eq_self, beq_self_eq_true, List.drop_succ_cons, List.drop_zero, swT, swL, hset_ap, not_true_eq_false, not_false_eq_true, true_implies, false_implies, implies_true, Int32.reduceLE, Int32.reduceLT, Int32.reduceAdd, Int32.reduceSub, Int32.reduceOfInt, Int32.reduceToNatClampNeg, i10, i01, Nat.add_left_cancel_iff, Nat.left_eq_add, Nat.add_eq_left, cdX9_measure, F1, e0, hmin]
  -- the loop: acts from m on are done
  have loop : ∀ m (x : Int32) (g2 g3 : Option Value) (h' : aH) (S' : Nat → Int32), m ≤ ac → x + 1 = nI m → TxAt h' t B G S' L R len (nI ac) (nI ot) (nI om) (nI mi) sk → (∀ k, m ≤ k → k < ac → S' k = nI (sz G ac k)) → sOff h h' t (t + 6) →
      A z 76 n 0 0 h' 12 [some (.ref t), some (.int x), g2, g3] [] Q := by
    intro m
    induction m with
    | zero =>
      intro x g2 g3 h' S' _ hx hT' hS' hO
      have hx := x_d0 hx
      subst hx
      refine go_ok okF1 (C := cdX9_measure) (by rfl) [12] 20 (by exact Nat.le_of_ble_eq_true rfl) ?_
      simp (maxSteps := 2000000) only [go, stp, inS, ↓reduceIte, Bool.false_eq_true, Nat.reduceLT, Nat.reduceEqDiff, Nat.reduceAdd, ldI, ldL, ldA, st1, st2, okS, List.getElem?_cons_zero, List.getElem?_cons_succ, List.length_cons, List.length_nil, List.set_cons_zero, List.set_cons_succ, callP, callF, popN, ct, Value.category, cI, List.getD_cons_zero, List.getD_cons_succ, and_self, and_true, true_and, Nat.zero_le, Nat.reduceLeDiff, Nat.add_zero, Nat.zero_add, List.nil_append, List.cons_append, Option.toList_some, Option.toList_none, List.append_nil, hset_ss, true_or, or_true, eq_self, beq_self_eq_true, List.drop_succ_cons, List.drop_zero, swT, swL, hset_ap, not_true_eq_false, not_false_eq_true, true_implies, false_implies, implies_true, Int32.reduceLE, Int32.reduceLT, Int32.reduceAdd, Int32.reduceSub, Int32.reduceOfInt, Int32.reduceToNatClampNeg, i10, i01, Nat.add_left_cancel_iff, Nat.left_eq_add, Nat.add_eq_left, cdX9_measure, F1, hT'.1]
      exact hq h' S' hT' (fun k hk => hS' k (Nat.zero_le _) hk) hO
    | succ m ih =>
      intro x g2 g3 h' S' hm hx hT' hS' hO
      have hx' : x = nI m := x_dn hx
      subst hx'
      have hlt : m < ac := by omega
      have hsg := (hW.1 m hlt).1
      have hzr := sz_rec (G := G) hlt
      have hbound := sz_wf hW _ m (Nat.le_refl _) hlt
      have hin : vp_in (nI m) 40 := vp_in_nI (by omega) (by omega)
      have icl : (nI m).toNatClampNeg = m := i_cl (by omega)
      have n0 : ¬ nI m < 0 := i_nn (by omega)
      -- the store at the end
      have fin : ∀ (v : Int32) (g : Option Value), v = nI (sz G ac m) → A z 76 n 0 0 h' 64 [some (.ref t), some (.int (nI m)), g, some (.int v)] [] Q := by
        intro v g hv
        refine go_ok okF1 (C := cdX9_measure) (by rfl) [12] 20 (by exact Nat.le_of_ble_eq_true rfl) ?_
        simp (maxSteps := 2000000) only [go, stp, inS, ↓reduceIte, Bool.false_eq_true, Nat.reduceLT, Nat.reduceEqDiff, Nat.reduceAdd, ldI, ldL, ldA, st1, st2, okS, List.getElem?_cons_zero, List.getElem?_cons_succ, List.length_cons, List.length_nil, List.set_cons_zero, List.set_cons_succ, callP, callF, popN, ct, Value.category, cI, List.getD_cons_zero, List.getD_cons_succ, and_self, and_true, true_and, Nat.zero_le, Nat.reduceLeDiff, Nat.add_zero, Nat.zero_add, List.nil_append, List.cons_append, Option.toList_some, Option.toList_none, List.append_nil, hset_ss, true_or, or_true, eq_self, beq_self_eq_true, List.drop_succ_cons, List.drop_zero, swT, swL, hset_ap, not_true_eq_false, not_false_eq_true, true_implies, false_implies, implies_true, Int32.reduceLE, Int32.reduceLT, Int32.reduceAdd, Int32.reduceSub, Int32.reduceOfInt, Int32.reduceToNatClampNeg, i10, i01, Nat.add_left_cancel_iff, Nat.left_eq_add, Nat.add_eq_left, cdX9_measure, F1, hT'.1, hT'.2.2.2.1, icl]
        refine ⟨hin, ih _ _ _ _ (upd S' m v) (by omega) (x_m1 _) ⟨by simp [hset_ap, hT'.1], by simp [hset_ap, hT'.2.1], by simp [hset_ap, hT'.2.2.1], by simp [hset_ap], by simp [hset_ap, hT'.2.2.2.2.1], by simp [hset_ap, hT'.2.2.2.2.2]⟩ (fun k hk1 hk2 => ?_) (hO.set (by omega) (by omega))⟩
        by_cases hkm : k = m
        · subst hkm; rw [pk_us, hv]
        · rw [pk_un hkm]; exact hS' k (by omega) hk2
      have szA : ∀ q, m < q → q ≤ ac → (if 0 ≤ nI q ∧ nI q < nI ac ∧ nI q < 40 then S' (nI q).toNatClampNeg else 0) = nI (sz G ac q) := by
        intro q h1 h2
        rw [i_cl (by omega)]
        by_cases h3 : q < ac
        · rw [if_pos ⟨nI_pos' (by omega), (i_lt (by omega) (by omega)).mpr h3, (i_lt (b := 40) (by omega) (by omega)).mpr (by omega)⟩]
          exact hS' q (by omega) h3
        · rw [if_neg (fun x => h3 ((i_lt (by omega) (by omega)).mp x.2.1)), sz_out (by omega)]; rfl
      refine go_ok okF1 (C := cdX9_measure) (by rfl) [12, 64] 40 (by exact Nat.le_of_ble_eq_true rfl) ?_
      simp (maxSteps := 2000000) only [go, stp, inS, ↓reduceIte, Bool.false_eq_true, Nat.reduceLT, Nat.reduceEqDiff, Nat.reduceAdd, ldI, ldL, ldA, st1, st2, okS, List.getElem?_cons_zero, List.getElem?_cons_succ, List.length_cons, List.length_nil, List.set_cons_zero, List.set_cons_succ, callP, callF, popN, ct, Value.category, cI, List.getD_cons_zero, List.getD_cons_succ, and_self, and_true, true_and, Nat.zero_le, Nat.reduceLeDiff, Nat.add_zero, Nat.zero_add, List.nil_append, List.cons_append, Option.toList_some, Option.toList_none, List.append_nil, hset_ss, true_or, or_true, eq_self, beq_self_eq_true, List.drop_succ_cons, List.drop_zero, swT, swL, hset_ap, not_true_eq_false, not_false_eq_true, true_implies, false_implies, implies_true, Int32.reduceLE, Int32.reduceLT, Int32.reduceAdd, Int32.reduceSub, Int32.reduceOfInt, Int32.reduceToNatClampNeg, i10, i01, Nat.add_left_cancel_iff, Nat.left_eq_add, Nat.add_eq_left, cdX9_measure, F1, hT'.1, hT'.2.2.1, icl, n0, hin, ib0]
      rcases hsg with hc | hc | hc
      · have c1 : G m = 60 ∨ G m = 61 ∨ G m = 62 := hc
        have c2 : ¬ G m = 38 ∧ ¬ G m = 124 := by rcases c1 with c | c | c <;> rw [c] <;> decide
        simp only [c1, c2.1, c2.2, not_true_eq_false, false_implies, true_and, and_true, not_false_eq_true, true_implies]
        refine fin _ _ ?_
        rw [hzr, if_neg (fun q => cm_ntw hc (twB_iff.mp q))]
        unfold s1
        rw [if_pos (cmB_iff.mpr hc)]; rfl
      · have c1 : ¬ (G m = 60 ∨ G m = 61 ∨ G m = 62) := tw_ncm hc
        have hb := wf_bi hW hlt hc
        simp only [c1, not_false_eq_true, true_implies, not_true_eq_false, false_implies, and_true, true_and]
        refine X_sizeAt hT' ?_
        rw [nI_1, szA (m + 1) (by omega) (by omega)]
        have hs1 : s1 G ac m = 1 + sz G ac (m + 1) := by unfold s1; rw [if_neg (fun q => tw_ncm hc (cmB_iff.mp q))]
        have h1s : (1 : Int32) + nI (sz G ac (m + 1)) = nI (s1 G ac m) := by rw [hs1]; exact nI_add 1 _
        rw [hzr, if_pos (twB_iff.mpr hc)] at hbound
        refine go_ok okF1 (C := cdX9_measure) (by rfl) [12, 64] 40 (by exact Nat.le_of_ble_eq_true rfl) ?_
        simp (maxSteps := 2000000) only [go, stp, inS, ↓reduceIte, Bool.false_eq_true, Nat.reduceLT, Nat.reduceEqDiff, Nat.reduceAdd, ldI, ldL, ldA, st1, st2, okS, List.getElem?_cons_zero, List.getElem?_cons_succ, List.length_cons, List.length_nil, List.set_cons_zero, List.set_cons_succ, callP, callF, popN, ct, Value.category, cI, List.getD_cons_zero, List.getD_cons_succ, and_self, and_true, true_and, Nat.zero_le, Nat.reduceLeDiff, Nat.add_zero, Nat.zero_add, List.nil_append, List.cons_append, Option.toList_some, Option.toList_none, List.append_nil, hset_ss, true_or, or_true, eq_self, beq_self_eq_true, List.drop_succ_cons, List.drop_zero, swT, swL, hset_ap, not_true_eq_false, not_false_eq_true, true_implies, false_implies, implies_true, Int32.reduceLE, Int32.reduceLT, Int32.reduceAdd, Int32.reduceSub, Int32.reduceOfInt, Int32.reduceToNatClampNeg, i10, i01, Nat.add_left_cancel_iff, Nat.left_eq_add, Nat.add_eq_left, cdX9_measure, F1, hT'.1, h1s]
        rw [nI_add]
        have last : Ok 78 [.ref t, .int (nI (m + s1 G ac m))] n h' (fun v n' h'_1 => A z 76 n' 0 0 h'_1 62 [some (.ref t), some (.int (nI m)), some (.int (G m)), some (.int (nI (s1 G ac m)))] (v.toList ++ [.int (nI (s1 G ac m))]) Q) := by
          refine X_sizeAt hT' ?_
          rw [szA _ (by have := s1_pos (G := G) (ac := ac) (k := m); omega) (by omega)]
          refine go_ok okF1 (C := cdX9_measure) (by rfl) [12, 64] 40 (by exact Nat.le_of_ble_eq_true rfl) ?_
          simp (maxSteps := 2000000) only [go, stp, inS, ↓reduceIte, Bool.false_eq_true, Nat.reduceLT, Nat.reduceEqDiff, Nat.reduceAdd, ldI, ldL, ldA, st1, st2, okS, List.getElem?_cons_zero, List.getElem?_cons_succ, List.length_cons, List.length_nil, List.set_cons_zero, List.set_cons_succ, callP, callF, popN, ct, Value.category, cI, List.getD_cons_zero, List.getD_cons_succ, and_self, and_true, true_and, Nat.zero_le, Nat.reduceLeDiff, Nat.add_zero, Nat.zero_add, List.nil_append, List.cons_append, Option.toList_some, Option.toList_none, List.append_nil, hset_ss, true_or, or_true, eq_self, beq_self_eq_true, List.drop_succ_cons, List.drop_zero, swT, swL, hset_ap, not_true_eq_false, not_false_eq_true, true_implies, false_implies, implies_true, Int32.reduceLE, Int32.reduceLT, Int32.reduceAdd, Int32.reduceSub, Int32.reduceOfInt, Int32.reduceToNatClampNeg, i10, i01, Nat.add_left_cancel_iff, Nat.left_eq_add, Nat.add_eq_left, cdX9_measure, F1, hT'.1]
          refine fin _ _ ?_
          rw [nI_add, hzr, if_pos (twB_iff.mpr hc)]
        exact ⟨fun _ => last, fun q => ⟨fun q2 => absurd hc (fun q3 => q3.elim q q2), fun _ => last⟩⟩
      · have c1 : ¬ (G m = 60 ∨ G m = 61 ∨ G m = 62) := on_ncm hc
        have c2 : ¬ G m = 38 ∧ ¬ G m = 124 := by rcases hc with c | c <;> rw [c] <;> decide
        have hb := wf_un hW hlt (on_ncm hc)
        simp only [c1, not_false_eq_true, true_implies, not_true_eq_false, false_implies, and_true, true_and]
        refine X_sizeAt hT' ?_
        rw [nI_1, szA (m + 1) (by omega) (by omega)]
        have hs1 : s1 G ac m = 1 + sz G ac (m + 1) := by unfold s1; rw [if_neg (fun q => on_ncm hc (cmB_iff.mp q))]
        have h1s : (1 : Int32) + nI (sz G ac (m + 1)) = nI (s1 G ac m) := by rw [hs1]; exact nI_add 1 _
        refine go_ok okF1 (C := cdX9_measure) (by rfl) [12, 64] 40 (by exact Nat.le_of_ble_eq_true rfl) ?_
        simp (maxSteps := 2000000) only [go, stp, inS, ↓reduceIte, Bool.false_eq_true, Nat.reduceLT, Nat.reduceEqDiff, Nat.reduceAdd, ldI, ldL, ldA, st1, st2, okS, List.getElem?_cons_zero, List.getElem?_cons_succ, List.length_cons, List.length_nil, List.set_cons_zero, List.set_cons_succ, callP, callF, popN, ct, Value.category, cI, List.getD_cons_zero, List.getD_cons_succ, and_self, and_true, true_and, Nat.zero_le, Nat.reduceLeDiff, Nat.add_zero, Nat.zero_add, List.nil_append, List.cons_append, Option.toList_some, Option.toList_none, List.append_nil, hset_ss, true_or, or_true, eq_self, beq_self_eq_true, List.drop_succ_cons, List.drop_zero, swT, swL, hset_ap, not_true_eq_false, not_false_eq_true, true_implies, false_implies, implies_true, Int32.reduceLE, Int32.reduceLT, Int32.reduceAdd, Int32.reduceSub, Int32.reduceOfInt, Int32.reduceToNatClampNeg, i10, i01, Nat.add_left_cancel_iff, Nat.left_eq_add, Nat.add_eq_left, cdX9_measure, F1, hT'.1, h1s]
        simp only [c2.1, c2.2, false_implies, true_and, not_false_eq_true, true_implies, and_true]
        refine fin _ _ ?_
        rw [hzr, if_neg (fun q => on_ntw hc (twB_iff.mp q))]
        rfl
  exact loop ac _ _ _ h S (Nat.le_refl _) (x_s1 _) hT (fun k h1 h2 => absurd h1 (by omega)) sOff.rf
end TX2
