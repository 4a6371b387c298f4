
/-! GrownAsks$Table -/
def TbAt (h : aH) (t most : Nat) (f sE : Nat → Int32) (nr : Nat) : Prop :=
  h t = some (.inl (8, [.int (nI most), .ref (t + 1), .ref (t + 2), .int (nI nr)])) ∧ h (t + 1) = some (.inr (most * 3, .inl f)) ∧ h (t + 2) = some (.inr (most, .inl sE))
def sOff (h h' : aH) (a b : Nat) : Prop := ∀ k, (k < a ∨ b ≤ k) → h' k = h k
theorem sOff.rf {h : aH} {a b : Nat} : sOff h h a b := fun _ _ => rfl
theorem sOff.tr {h h1 h2 : aH} {a b : Nat} (e1 : sOff h h1 a b) (e2 : sOff h1 h2 a b) : sOff h h2 a b := fun k hk => (e2 k hk).trans (e1 k hk)
theorem TbAt.kept {h h' : aH} {t most : Nat} {f sE : Nat → Int32} {nr : Nat} (hT : TbAt h t most f sE nr) (hk : ∀ k, t ≤ k → k < t + 3 → h' k = h k) : TbAt h' t most f sE nr :=
  ⟨by rw [hk t (by omega) (by omega)]; exact hT.1, by rw [hk (t + 1) (by omega) (by omega)]; exact hT.2.1, by rw [hk (t + 2) (by omega) (by omega)]; exact hT.2.2⟩
def cS (f : Nat → Int32) (nr : Nat) (row col : Int32) : Int32 := if 0 ≤ row ∧ row < nI nr ∧ 0 ≤ col ∧ col < 3 then f (row * 3 + col).toNatClampNeg else -1000
theorem cS_in {f : Nat → Int32} {nr r c : Nat} (hn : nr ≤ 12) (hr : r < nr) (hc : c < 3) : cS f nr (nI r) (nI c) = f (r * 3 + c) := by
  unfold cS
  rw [if_pos ⟨nI_pos' (by omega), (i_lt (by omega) (by omega)).mpr hr, nI_pos' (by omega), (show (3 : Int32) = nI 3 from rfl) ▸ (i_lt (by omega) (by omega)).mpr hc⟩]
  rw [show (3 : Int32) = nI 3 from rfl, pk_mul, nI_add, i_cl (by omega)]
theorem i_pos {x : Int32} : 0 ≤ x ↔ ¬ x < 0 := i_nlt.symm
set_option maxRecDepth 100000 in
set_option maxHeartbeats 400000 in
theorem T_cell {n : Nat} {h : aH} {Q : aQ} {t most : Nat} {f sE : Nat → Int32} {nr : Nat} {row col : Int32} (hT : TbAt h t most f sE nr) (h1 : nr ≤ most) (h2 : most ≤ 12) (hq : Q (some (.int (cS f nr row col))) n h) : Ok 56 [.ref t, .int row, .int col] n h Q := by
  obtain ⟨e0, e1, e2⟩ := hT
  refine ok_of kMX8_cell kCX8_cell (Nat.le_of_ble_eq_true rfl) (fun z => ?_)
  change A z _ _ 0 0 _ 0 [some (.ref t), some (.int row), some (.int col)] [] _
  refine go_ok okF1 (C := cdX8_cell) (by rfl) [] 40 (by exact Nat.le_of_ble_eq_true rfl) ?_
  simp (maxSteps := 2000000) only [go, stp, inS, ↓reduceIte, Bool.false_eq_true, Nat.reduceLT, Nat.reduceEqDiff, Nat.reduceAdd, ldI, ldL, ldA, st1, st2, okS, List.getElem?_cons_zero, List.getElem?_cons_succ, List.length_cons, List.length_nil, List.set_cons_zero, List.set_cons_succ, callP, callF, popN, ct, Value.category, cI, List.getD_cons_zero, List.getD_cons_succ, and_self, and_true, true_and, Nat.zero_le, Nat.reduceLeDiff, Nat.add_zero, Nat.zero_add, List.nil_append, List.cons_append, Option.toList_some, Option.toList_none, List.append_nil, hset_ss, true_or, or_true, eq_self, beq_self_eq_true, List.drop_succ_cons, List.drop_zero, swT, swL, hset_ap, not_true_eq_false, not_false_eq_true, true_implies, false_implies, implies_true, Int32.reduceLE, Int32.reduceLT, Int32.reduceAdd, Int32.reduceSub, Int32.reduceOfInt, Int32.reduceToNatClampNeg, i10, i01, Nat.add_left_cancel_iff, Nat.left_eq_add, Nat.add_eq_left, cdX8_cell, F1, e0, e1, e2]
  unfold cS at hq
  refine ⟨fun c1 => ?_, fun c1 => ⟨fun c2 => ?_, fun c2 => ⟨fun c3 => ?_, fun c3 => ⟨fun c4 => ?_, fun c4 => ?_⟩⟩⟩⟩
  · rw [if_neg (fun q => absurd q.1 (i_nle.mpr c1))] at hq; exact hq
  · rw [if_neg (fun q => absurd q.2.1 (i_nlt.mpr c2))] at hq; exact hq
  · rw [if_neg (fun q => absurd q.2.2.1 (i_nle.mpr c3))] at hq; exact hq
  · rw [if_pos ⟨i_nlt.mp c1, i_nle.mp c2, i_nlt.mp c3, c4⟩] at hq
    refine ⟨?_, hq⟩
    obtain ⟨r, hr, rfl⟩ := i_of (n := nr) (by omega) c1 (i_nle.mp c2)
    obtain ⟨c, hc, rfl⟩ := i_of (n := 3) (by omega) c3 c4
    rw [show (3 : Int32) = nI 3 from rfl, pk_mul, nI_add]
    exact vp_in_nI (by omega) (by omega)
  · rw [if_neg (fun q => absurd q.2.2.2 c4)] at hq; exact hq
set_option maxRecDepth 100000 in
set_option maxHeartbeats 400000 in
theorem T_clear {n : Nat} {h : aH} {Q : aQ} {t most : Nat} {f sE : Nat → Int32} {nr : Nat} (hT : TbAt h t most f sE nr) (hq : ∀ h', TbAt h' t most f sE 0 → sOff h h' t (t + 3) → Q none n h') : Ok 58 [.ref t] n h Q := by
  obtain ⟨e0, e1, e2⟩ := hT
  refine ok_of kMX8_clear kCX8_clear (Nat.le_of_ble_eq_true rfl) (fun z => ?_)
  change A z _ _ 0 0 _ 0 [some (.ref t)] [] _
  refine go_ok okF1 (C := cdX8_clear) (by rfl) [] 10 (by exact Nat.le_of_ble_eq_true rfl) ?_
  simp (maxSteps := 2000000) only [go, stp, inS, ↓reduceIte, Bool.false_eq_true, Nat.reduceLT, Nat.reduceEqDiff, Nat.reduceAdd, ldI, ldL, ldA, st1, st2, okS, List.getElem?_cons_zero, List.getElem?_cons_succ, List.length_cons, List.length_nil, List.set_cons_zero, List.set_cons_succ, callP, callF, popN, ct, Value.category, cI, List.getD_cons_zero, List.getD_cons_succ, and_self, and_true, true_and, Nat.zero_le, Nat.reduceLeDiff, Nat.add_zero, Nat.zero_add, List.nil_append, List.cons_append, Option.toList_some, Option.toList_none, List.append_nil, hset_ss, true_or, or_true, eq_self, beq_self_eq_true, List.drop_succ_cons, List.drop_zero, swT, swL, hset_ap, not_true_eq_false, not_false_eq_true, true_implies, false_implies, implies_true, Int32.reduceLE, Int32.reduceLT, Int32.reduceAdd, Int32.reduceSub, Int32.reduceOfInt, Int32.reduceToNatClampNeg, i10, i01, Nat.add_left_cancel_iff, Nat.left_eq_add, Nat.add_eq_left, cdX8_clear, F1, e0, e1, e2]
  refine hq _ ⟨hset_s _ _ _, ?_, ?_⟩ (fun k hk => hset_n _ _ (by omega))
  · rw [hset_n _ _ (by omega)]; exact e1
  · rw [hset_n _ _ (by omega)]; exact e2
set_option maxRecDepth 100000 in
set_option maxHeartbeats 400000 in
theorem T_all {n : Nat} {h : aH} {Q : aQ} {t most : Nat} {f sE : Nat → Int32} {nr : Nat} (hT : TbAt h t most f sE nr) (hq : Q (some (.int (((1 : Int32) <<< (nI nr &&& 31)) - 1))) n h) : Ok 59 [.ref t] n h Q := by
  obtain ⟨e0, e1, e2⟩ := hT
  refine ok_of kMX8_all kCX8_all (Nat.le_of_ble_eq_true rfl) (fun z => ?_)
  change A z _ _ 0 0 _ 0 [some (.ref t)] [] _
  refine go_ok okF1 (C := cdX8_all) (by rfl) [] 10 (by exact Nat.le_of_ble_eq_true rfl) ?_
  simp (maxSteps := 2000000) only [go, stp, inS, ↓reduceIte, Bool.false_eq_true, Nat.reduceLT, Nat.reduceEqDiff, Nat.reduceAdd, ldI, ldL, ldA, st1, st2, okS, List.getElem?_cons_zero, List.getElem?_cons_succ, List.length_cons, List.length_nil, List.set_cons_zero, List.set_cons_succ, callP, callF, popN, ct, Value.category, cI, List.getD_cons_zero, List.getD_cons_succ, and_self, and_true, true_and, Nat.zero_le, Nat.reduceLeDiff, Nat.add_zero, Nat.zero_add, List.nil_append, List.cons_append, Option.toList_some, Option.toList_none, List.append_nil, hset_ss, true_or, or_true, eq_self, beq_self_eq_true, List.drop_succ_cons, List.drop_zero, swT, swL, hset_ap, not_true_eq_false, not_false_eq_true, true_implies, false_implies, implies_true, Int32.reduceLE, Int32.reduceLT, Int32.reduceAdd, Int32.reduceSub, Int32.reduceOfInt, Int32.reduceToNatClampNeg, i10, i01, Nat.add_left_cancel_iff, Nat.left_eq_add, Nat.add_eq_left, cdX8_all, F1, e0, e1, e2]
  exact hq
-- what a term is in a row
def tv (f : Nat → Int32) (r : Nat) (τ : Int32) : Int32 := if 20 ≤ τ then f (r * 3 + (τ.toNatClampNeg - 20)) else τ
def tmOk (τ : Int32) : Prop := τ = -100 ∨ (-9 ≤ τ ∧ τ ≤ 9) ∨ (20 ≤ τ ∧ τ < 23)
set_option maxRecDepth 100000 in
set_option maxHeartbeats 400000 in
theorem T_valueOf {n : Nat} {h : aH} {Q : aQ} {t most : Nat} {f sE : Nat → Int32} {nr r : Nat} {τ : Int32} (hT : TbAt h t most f sE nr) (h1 : nr ≤ most) (h2 : most ≤ 12) (hr : r < nr) (hτ : tmOk τ) (hq : Q (some (.int (tv f r τ))) n h) : Ok 60 [.ref t, .int τ, .int (nI r)] n h Q := by
  obtain ⟨e0, e1, e2⟩ := hT
  refine ok_of kMX8_valueOf kCX8_valueOf (Nat.le_of_ble_eq_true rfl) (fun z => ?_)
  change A z _ _ 0 0 _ 0 [some (.ref t), some (.int τ), some (.int (nI r)), none] [] _
  refine go_ok okF1 (C := cdX8_valueOf) (by rfl) [] 40 (by exact Nat.le_of_ble_eq_true rfl) ?_
  simp (maxSteps := 2000000) only [go, stp, inS, ↓reduceIte, Bool.false_eq_true, Nat.reduceLT, Nat.reduceEqDiff, Nat.reduceAdd, ldI, ldL, ldA, st1, st2, okS, List.getElem?_cons_zero, List.getElem?_cons_succ, List.length_cons, List.length_nil, List.set_cons_zero, List.set_cons_succ, callP, callF, popN, ct, Value.category, cI, List.getD_cons_zero, List.getD_cons_succ, and_self, and_true, true_and, Nat.zero_le, Nat.reduceLeDiff, Nat.add_zero, Nat.zero_add, List.nil_append, List.cons_append, Option.toList_some, Option.toList_none, List.append_nil, hset_ss, true_or, or_true, eq_self, beq_self_eq_true, List.drop_succ_cons, List.drop_zero, swT, swL, hset_ap, not_true_eq_false, not_false_eq_true, true_implies, false_implies, implies_true, Int32.reduceLE, Int32.reduceLT, Int32.reduceAdd, Int32.reduceSub, Int32.reduceOfInt, Int32.reduceToNatClampNeg, i10, i01, Nat.add_left_cancel_iff, Nat.left_eq_add, Nat.add_eq_left, cdX8_valueOf, F1, e0, e1, e2]
  unfold tv at hq
  refine ⟨fun c1 => ?_, fun c1 => ?_⟩
  · rw [if_neg (i_nle.mpr c1)] at hq; exact hq
  · have c1' := i_nlt.mp c1
    rw [if_pos c1'] at hq
    have hlt : τ < 23 := by
      rcases hτ with rfl | ⟨a, b⟩ | ⟨a, b⟩
      · exact absurd c1' (by decide)
      · rw [Int32.le_iff_toInt_le] at b c1'
        have : (9 : Int32).toInt = 9 := by decide
        have : (20 : Int32).toInt = 20 := by decide
        omega
      · exact b
    obtain ⟨c, hc, rfl⟩ : ∃ c, c < 23 ∧ τ = nI c := i_of (n := 23) (by omega) (fun q => by
      rw [Int32.lt_iff_toInt_lt] at q; rw [Int32.le_iff_toInt_le] at c1'
      have : (0 : Int32).toInt = 0 := by decide
      have : (20 : Int32).toInt = 20 := by decide
      omega) hlt
    have hc20 : 20 ≤ c := (i_le (a := 20) (by omega) (by omega)).mp c1'
    rw [i_cl (by omega)] at hq
    have hidx : nI r * 3 + (nI c - 20) = nI (r * 3 + (c - 20)) := by
      rw [show (3 : Int32) = nI 3 from rfl, show (20 : Int32) = nI 20 from rfl, pk_mul, pk_sub hc20, nI_add]
    rw [hidx]
    refine ⟨fun c2 => absurd c2 (i_nn (by omega)), fun _ => ⟨fun c3 => ⟨vp_in_nI (by omega) (by omega), ?_⟩, fun c3 => ?_⟩⟩
    · rw [i_cl (by omega)]; exact hq
    · exact absurd ((i_lt (by omega) (by omega)).mpr (by omega)) c3
def sameR (f : Nat → Int32) (a b : Nat) : Prop := f (a * 3) = f (b * 3) ∧ f (a * 3 + 1) = f (b * 3 + 1) ∧ f (a * 3 + 2) = f (b * 3 + 2)
noncomputable def sameB (f : Nat → Int32) (a b : Nat) : Bool := f (a * 3) == f (b * 3) && f (a * 3 + 1) == f (b * 3 + 1) && f (a * 3 + 2) == f (b * 3 + 2)
set_option maxRecDepth 100000 in
set_option maxHeartbeats 400000 in
theorem T_isSame {n : Nat} {h : aH} {Q : aQ} {t most : Nat} {f sE : Nat → Int32} {nr a b : Nat} (hT : TbAt h t most f sE nr) (h1 : nr ≤ most) (h2 : most ≤ 12) (ha : a < nr) (hb : b < nr) (hq : Q (some (.int (if sameB f a b = true then 1 else 0))) n h) : Ok 63 [.ref t, .int (nI a), .int (nI b)] n h Q := by
  have c0 : ∀ r, r < nr → cS f nr (nI r) 0 = f (r * 3) := fun r hr => cS_in (c := 0) (by omega) hr (by omega)
  have c1 : ∀ r, r < nr → cS f nr (nI r) 1 = f (r * 3 + 1) := fun r hr => cS_in (c := 1) (by omega) hr (by omega)
  have c2 : ∀ r, r < nr → cS f nr (nI r) 2 = f (r * 3 + 2) := fun r hr => cS_in (c := 2) (by omega) hr (by omega)
  have e0 := hT.1
  refine ok_of kMX8_isSame kCX8_isSame (Nat.le_of_ble_eq_true rfl) (fun z => ?_)
  change A z _ _ 0 0 _ 0 [some (.ref t), some (.int (nI a)), some (.int (nI b)), none] [] _
  refine go_ok okF1 (C := cdX8_isSame) (by rfl) [] 40 (by exact Nat.le_of_ble_eq_true rfl) ?_
  simp (maxSteps := 2000000) only [go, stp, inS, ↓reduceIte, Bool.false_eq_true, Nat.reduceLT, Nat.reduceEqDiff, Nat.reduceAdd, ldI, ldL, ldA, st1, st2, okS, List.getElem?_cons_zero, List.getElem?_cons_succ, List.length_cons, List.length_nil, List.set_cons_zero, List.set_cons_succ, callP, callF, popN, ct, Value.category, cI, List.getD_cons_zero, List.getD_cons_succ, and_self, and_true, true_and, Nat.zero_le, Nat.reduceLeDiff, Nat.add_zero, Nat.zero_add, List.nil_append, List.cons_append, Option.toList_some, Option.toList_none, List.append_nil, hset_ss, true_or, or_true, eq_self, beq_self_eq_true, List.drop_succ_cons, List.drop_zero, swT, swL, hset_ap, not_true_eq_false, not_false_eq_true, true_implies, false_implies, implies_true, Int32.reduceLE, Int32.reduceLT, Int32.reduceAdd, Int32.reduceSub, Int32.reduceOfInt, Int32.reduceToNatClampNeg, i10, i01, Nat.add_left_cancel_iff, Nat.left_eq_add, Nat.add_eq_left, cdX8_isSame, F1, e0, Int32.reduceLE, Int32.reduceAdd, not_false_eq_true, forall_const, false_implies]
  refine T_cell hT h1 h2 ?_
  refine go_ok okF1 (C := cdX8_isSame) (by rfl) [] 40 (by exact Nat.le_of_ble_eq_true rfl) ?_
  simp (maxSteps := 2000000) only [go, stp, inS, ↓reduceIte, Bool.false_eq_true, Nat.reduceLT, Nat.reduceEqDiff, Nat.reduceAdd, ldI, ldL, ldA, st1, st2, okS, List.getElem?_cons_zero, List.getElem?_cons_succ, List.length_cons, List.length_nil, List.set_cons_zero, List.set_cons_succ, callP, callF, popN, ct, Value.category, cI, List.getD_cons_zero, List.getD_cons_succ, and_self, and_true, true_and, Nat.zero_le, Nat.reduceLeDiff, Nat.add_zero, Nat.zero_add, List.nil_append, List.cons_append, Option.toList_some, Option.toList_none, List.append_nil, hset_ss, true_or, or_true, eq_self, beq_self_eq_true, List.drop_succ_cons, List.drop_zero, swT, swL, hset_ap, not_true_eq_false, not_false_eq_true, true_implies, false_implies, implies_true, Int32.reduceLE, Int32.reduceLT, Int32.reduceAdd, Int32.reduceSub, Int32.reduceOfInt, Int32.reduceToNatClampNeg, i10, i01, Nat.add_left_cancel_iff, Nat.left_eq_add, Nat.add_eq_left, cdX8_isSame, F1, e0]
  refine T_cell hT h1 h2 ?_
  refine go_ok okF1 (C := cdX8_isSame) (by rfl) [] 40 (by exact Nat.le_of_ble_eq_true rfl) ?_
  simp (maxSteps := 2000000) only [go, stp, inS, ↓reduceIte, Bool.false_eq_true, Nat.reduceLT, Nat.reduceEqDiff, Nat.reduceAdd, ldI, ldL, ldA, st1, st2, okS, List.getElem?_cons_zero, List.getElem?_cons_succ, List.length_cons, List.length_nil, List.set_cons_zero, List.set_cons_succ, callP, callF, popN, ct, Value.category, cI, List.getD_cons_zero, List.getD_cons_succ, and_self, and_true, true_and, Nat.zero_le, Nat.reduceLeDiff, Nat.add_zero, Nat.zero_add, List.nil_append, List.cons_append, Option.toList_some, Option.toList_none, List.append_nil, hset_ss, true_or, or_true, eq_self, beq_self_eq_true, List.drop_succ_cons, List.drop_zero, swT, swL, hset_ap, not_true_eq_false, not_false_eq_true, true_implies, false_implies, implies_true, Int32.reduceLE, Int32.reduceLT, Int32.reduceAdd, Int32.reduceSub, Int32.reduceOfInt, Int32.reduceToNatClampNeg, i10, i01, Nat.add_left_cancel_iff, Nat.left_eq_add, Nat.add_eq_left, cdX8_isSame, F1, e0, Int32.reduceLE, Int32.reduceAdd, not_false_eq_true, forall_const, false_implies]
  rw [c0 a ha, c0 b hb]
  unfold sameB at hq
  refine ⟨fun d1 => ?_, fun d1 => by simpa [d1] using hq⟩
  refine T_cell hT h1 h2 ?_
  refine go_ok okF1 (C := cdX8_isSame) (by rfl) [] 40 (by exact Nat.le_of_ble_eq_true rfl) ?_
  simp (maxSteps := 2000000) only [go, stp, inS, ↓reduceIte, Bool.false_eq_true, Nat.reduceLT, Nat.reduceEqDiff, Nat.reduceAdd, ldI, ldL, ldA, st1, st2, okS, List.getElem?_cons_zero, List.getElem?_cons_succ, List.length_cons, List.length_nil, List.set_cons_zero, List.set_cons_succ, callP, callF, popN, ct, Value.category, cI, List.getD_cons_zero, List.getD_cons_succ, and_self, and_true, true_and, Nat.zero_le, Nat.reduceLeDiff, Nat.add_zero, Nat.zero_add, List.nil_append, List.cons_append, Option.toList_some, Option.toList_none, List.append_nil, hset_ss, true_or, or_true, eq_self, beq_self_eq_true, List.drop_succ_cons, List.drop_zero, swT, swL, hset_ap, not_true_eq_false, not_false_eq_true, true_implies, false_implies, implies_true, Int32.reduceLE, Int32.reduceLT, Int32.reduceAdd, Int32.reduceSub, Int32.reduceOfInt, Int32.reduceToNatClampNeg, i10, i01, Nat.add_left_cancel_iff, Nat.left_eq_add, Nat.add_eq_left, cdX8_isSame, F1, e0]
  refine T_cell hT h1 h2 ?_
  refine go_ok okF1 (C := cdX8_isSame) (by rfl) [] 40 (by exact Nat.le_of_ble_eq_true rfl) ?_
  simp (maxSteps := 2000000) only [go, stp, inS, ↓reduceIte, Bool.false_eq_true, Nat.reduceLT, Nat.reduceEqDiff, Nat.reduceAdd, ldI, ldL, ldA, st1, st2, okS, List.getElem?_cons_zero, List.getElem?_cons_succ, List.length_cons, List.length_nil, List.set_cons_zero, List.set_cons_succ, callP, callF, popN, ct, Value.category, cI, List.getD_cons_zero, List.getD_cons_succ, and_self, and_true, true_and, Nat.zero_le, Nat.reduceLeDiff, Nat.add_zero, Nat.zero_add, List.nil_append, List.cons_append, Option.toList_some, Option.toList_none, List.append_nil, hset_ss, true_or, or_true, eq_self, beq_self_eq_true, List.drop_succ_cons, List.drop_zero, swT, swL, hset_ap, not_true_eq_false, not_false_eq_true, true_implies, false_implies, implies_true, Int32.reduceLE, Int32.reduceLT, Int32.reduceAdd, Int32.reduceSub, Int32.reduceOfInt, Int32.reduceToNatClampNeg, i10, i01, Nat.add_left_cancel_iff, Nat.left_eq_add, Nat.add_eq_left, cdX8_isSame, F1, e0, Int32.reduceLE, Int32.reduceAdd, not_false_eq_true, forall_const, false_implies]
  rw [c1 a ha, c1 b hb]
  refine ⟨fun d2 => ?_, fun d2 => by simpa [d1, d2] using hq⟩
  refine T_cell hT h1 h2 ?_
  refine go_ok okF1 (C := cdX8_isSame) (by rfl) [] 40 (by exact Nat.le_of_ble_eq_true rfl) ?_
  simp (maxSteps := 2000000) only [go, stp, inS, ↓reduceIte, Bool.false_eq_true, Nat.reduceLT, Nat.reduceEqDiff, Nat.reduceAdd, ldI, ldL, ldA, st1, st2, okS, List.getElem?_cons_zero, List.getElem?_cons_succ, List.length_cons, List.length_nil, List.set_cons_zero, List.set_cons_succ, callP, callF, popN, ct, Value.category, cI, List.getD_cons_zero, List.getD_cons_succ, and_self, and_true, true_and, Nat.zero_le, Nat.reduceLeDiff, Nat.add_zero, Nat.zero_add, List.nil_append, List.cons_append, Option.toList_some, Option.toList_none, List.append_nil, hset_ss, true_or, or_true, eq_self, beq_self_eq_true, List.drop_succ_cons, List.drop_zero, swT, swL, hset_ap, not_true_eq_false, not_false_eq_true, true_implies, false_implies, implies_true, Int32.reduceLE, Int32.reduceLT, Int32.reduceAdd, Int32.reduceSub, Int32.reduceOfInt, Int32.reduceToNatClampNeg, i10, i01, Nat.add_left_cancel_iff, Nat.left_eq_add, Nat.add_eq_left, cdX8_isSame, F1, e0]
  refine T_cell hT h1 h2 ?_
  refine go_ok okF1 (C := cdX8_isSame) (by rfl) [] 40 (by exact Nat.le_of_ble_eq_true rfl) ?_
  simp (maxSteps := 2000000) only [go, stp, inS, ↓reduceIte, Bool.false_eq_true, Nat.reduceLT, Nat.reduceEqDiff, Nat.reduceAdd, ldI, ldL, ldA, st1, st2, okS, List.getElem?_cons_zero, List.getElem?_cons_succ, List.length_cons, List.length_nil, List.set_cons_zero, List.set_cons_succ, callP, callF, popN, ct, Value.category, cI, List.getD_cons_zero, List.getD_cons_succ, and_self, and_true, true_and, Nat.zero_le, Nat.reduceLeDiff, Nat.add_zero, Nat.zero_add, List.nil_append, List.cons_append, Option.toList_some, Option.toList_none, List.append_nil, hset_ss, true_or, or_true, eq_self, beq_self_eq_true, List.drop_succ_cons, List.drop_zero, swT, swL, hset_ap, not_true_eq_false, not_false_eq_true, true_implies, false_implies, implies_true, Int32.reduceLE, Int32.reduceLT, Int32.reduceAdd, Int32.reduceSub, Int32.reduceOfInt, Int32.reduceToNatClampNeg, i10, i01, Nat.add_left_cancel_iff, Nat.left_eq_add, Nat.add_eq_left, cdX8_isSame, F1, e0, Int32.reduceLE, Int32.reduceAdd, not_false_eq_true, forall_const, false_implies]
  rw [c2 a ha, c2 b hb]
  exact ⟨fun d3 => by simpa [d1, d2, d3] using hq, fun d3 => by simpa [d1, d2, d3] using hq⟩
-- which earlier rows are the same as a row
noncomputable def smE (f : Nat → Int32) (r : Nat) : Int32 := mB r (fun o => sameB f o r)
def SEok (f sE : Nat → Int32) (nr : Nat) : Prop := ∀ r, r < nr → sE r = smE f r
theorem TbAt.setE {h : aH} {t most : Nat} {f sE : Nat → Int32} {nr : Nat} (hT : TbAt h t most f sE nr) (g : Nat → Int32) : TbAt (hset h (t + 2) (.inr (most, .inl g))) t most f g nr :=
  ⟨by rw [hset_n _ _ (by omega)]; exact hT.1, by rw [hset_n _ _ (by omega)]; exact hT.2.1, hset_s _ _ _⟩
set_option maxRecDepth 100000 in
set_option maxHeartbeats 400000 in
theorem T_findSame {n : Nat} {h : aH} {Q : aQ} {t most : Nat} {f sE : Nat → Int32} {nr a : Nat} (hT : TbAt h t most f sE nr) (h1 : nr ≤ most) (h2 : most ≤ 12) (ha : a ≤ nr)
    (hq : ∀ h' sE', TbAt h' t most f sE' nr → (∀ r, r < nr → sE' r = if a ≤ r then smE f r else sE r) → sOff h h' t (t + 3) → Q none n h') : Ok 62 [.ref t, .int (nI a)] n h Q := by
  refine ok_of kMX8_findSame kCX8_findSame (Nat.le_of_ble_eq_true rfl) (fun z => ?_)
  change A z _ _ 0 0 _ 0 [some (.ref t), some (.int (nI a)), none, none, none] [] _
  refine go_ok okF1 (C := cdX8_findSame) (by rfl) [6] 20 (by exact Nat.le_of_ble_eq_true rfl) ?_
  simp (maxSteps := 2000000) only [go, stp, inS, ↓reduceIte, Bool.false_eq_true, Nat.reduceLT, Nat.reduceEqDiff, Nat.reduceAdd, ldI, ldL, ldA, st1, st2, okS, List.getElem?_cons_zero, List.getElem?_cons_succ, List.length_cons, List.length_nil, List.set_cons_zero, List.set_cons_succ, callP, callF, popN, ct, Value.category, cI, List.getD_cons_zero, List.getD_cons_succ, and_self, and_true, true_and, Nat.zero_le, Nat.reduceLeDiff, Nat.add_zero, Nat.zero_add, List.nil_append, List.cons_append, Option.toList_some, Option.toList_none, List.append_nil, hset_ss, true_or, or_true, eq_self, beq_self_eq_true, List.drop_succ_cons, List.drop_zero, swT, swL, hset_ap, not_true_eq_false, not_false_eq_true, true_implies, false_implies, implies_true, Int32.reduceLE, Int32.reduceLT, Int32.reduceAdd, Int32.reduceSub, Int32.reduceOfInt, Int32.reduceToNatClampNeg, i10, i01, Nat.add_left_cancel_iff, Nat.left_eq_add, Nat.add_eq_left, cdX8_findSame, F1, hT.1]
  have e0 : (if nI a < 0 then 0 else nI a) = nI a := if_neg (i_nn (by omega))
  rw [e0]
  clear e0
  -- outer loop
  have outer : ∀ m r (g3 g4 : Option Value) (h' : aH) (sE' : Nat → Int32), nr - r = m → a ≤ r → r ≤ nr → TbAt h' t most f sE' nr → (∀ q, q < nr → sE' q = if a ≤ q ∧ q < r then smE f q else sE q) → sOff h h' t (t + 3) →
      A z 62 n 0 0 h' 6 [some (.ref t), some (.int (nI a)), some (.int (nI r)), g3, g4] [] Q := by
    intro m
    induction m with
    | zero =>
      intro r g3 g4 h' sE' hm har hr hT' hE hO
      refine go_ok okF1 (C := cdX8_findSame) (by rfl) [6, 27] 20 (by exact Nat.le_of_ble_eq_true rfl) ?_
      simp (maxSteps := 2000000) only [go, stp, inS, ↓reduceIte, Bool.false_eq_true, Nat.reduceLT, Nat.reduceEqDiff, Nat.reduceAdd, ldI, ldL, ldA, st1, st2, okS, List.getElem?_cons_zero, List.getElem?_cons_succ, List.length_cons, List.length_nil, List.set_cons_zero, List.set_cons_succ, callP, callF, popN, ct, Value.category, cI, List.getD_cons_zero, List.getD_cons_succ, and_self, and_true, true_and, Nat.zero_le, Nat.reduceLeDiff, Nat.add_zero, Nat.zero_add, List.nil_append, List.cons_append, Option.toList_some, Option.toList_none, List.append_nil, hset_ss, true_or, or_true, eq_self, beq_self_eq_true, List.drop_succ_cons, List.drop_zero, swT, swL, hset_ap, not_true_eq_false, not_false_eq_true, true_implies, false_implies, implies_true, Int32.reduceLE, Int32.reduceLT, Int32.reduceAdd, Int32.reduceSub, Int32.reduceOfInt, Int32.reduceToNatClampNeg, i10, i01, Nat.add_left_cancel_iff, Nat.left_eq_add, Nat.add_eq_left, cdX8_findSame, F1, hT'.1]
      have hrn : r = nr := by omega
      subst hrn
      refine ⟨fun _ => hq h' sE' hT' (fun q hqn => ?_) hO, fun c => absurd ((i_le (by omega) (by omega)).mpr (Nat.le_refl _)) c⟩
      rw [hE q hqn]
      by_cases hc : a ≤ q
      · rw [if_pos ⟨hc, hqn⟩, if_pos hc]
      · rw [if_neg (fun x => hc x.1), if_neg hc]
    | succ m ih =>
      intro r g3 g4 h' sE' hm har hr hT' hE hO
      have hlt : r < nr := by omega
      refine go_ok okF1 (C := cdX8_findSame) (by rfl) [6, 27] 20 (by exact Nat.le_of_ble_eq_true rfl) ?_
      simp (maxSteps := 2000000) only [go, stp, inS, ↓reduceIte, Bool.false_eq_true, Nat.reduceLT, Nat.reduceEqDiff, Nat.reduceAdd, ldI, ldL, ldA, st1, st2, okS, List.getElem?_cons_zero, List.getElem?_cons_succ, List.length_cons, List.length_nil, List.set_cons_zero, List.set_cons_succ, callP, callF, popN, ct, Value.category, cI, List.getD_cons_zero, List.getD_cons_succ, and_self, and_true, true_and, Nat.zero_le, Nat.reduceLeDiff, Nat.add_zero, Nat.zero_add, List.nil_append, List.cons_append, Option.toList_some, Option.toList_none, List.append_nil, hset_ss, true_or, or_true, eq_self, beq_self_eq_true, List.drop_succ_cons, List.drop_zero, swT, swL, hset_ap, not_true_eq_false, not_false_eq_true, true_implies, false_implies, implies_true, Int32.reduceLE, Int32.reduceLT, Int32.reduceAdd, Int32.reduceSub, Int32.reduceOfInt, Int32.reduceToNatClampNeg, i10, i01, Nat.add_left_cancel_iff, Nat.left_eq_add, Nat.add_eq_left, cdX8_findSame, F1, hT'.1]
      refine ⟨fun c => absurd ((i_le (by omega) (by omega)).mp c) (by omega), fun _ => ⟨fun c => absurd ((i_le (by omega) (by omega)).mp c) (by omega), fun _ => ?_⟩⟩
      -- inner loop
      have inner : ∀ m2 o, r - o = m2 → o ≤ r → A z 62 n 0 0 h' 27 [some (.ref t), some (.int (nI a)), some (.int (nI r)), some (.int (mB o (fun o => sameB f o r))), some (.int (nI o))] [] Q := by
        intro m2
        induction m2 with
        | zero =>
          intro o hm2 ho
          have hor : o = r := by omega
          subst hor
          refine go_ok okF1 (C := cdX8_findSame) (by rfl) [6, 27] 20 (by exact Nat.le_of_ble_eq_true rfl) ?_
          simp (maxSteps := 2000000) only [go, stp, inS, ↓reduceIte, Bool.false_eq_true, Nat.reduceLT, Nat.reduceEqDiff, Nat.reduceAdd, ldI, ldL, ldA, st1, st2, okS, List.getElem?_cons_zero, List.getElem?_cons_succ, List.length_cons, List.length_nil, List.set_cons_zero, List.set_cons_succ, callP, callF, popN, ct, Value.category, cI, List.getD_cons_zero, List.getD_cons_succ, and_self, and_true, true_and, Nat.zero_le, Nat.reduceLeDiff, Nat.add_zero, Nat.zero_add, List.nil_append, List.cons_append, Option.toList_some, Option.toList_none, List.append_nil, hset_ss, true_or, or_true, eq_self, beq_self_eq_true, List.drop_succ_cons, List.drop_zero, swT, swL, hset_ap, not_true_eq_false, not_false_eq_true, true_implies, false_implies, implies_true, Int32.reduceLE, Int32.reduceLT, Int32.reduceAdd, Int32.reduceSub, Int32.reduceOfInt, Int32.reduceToNatClampNeg, i10, i01, Nat.add_left_cancel_iff, Nat.left_eq_add, Nat.add_eq_left, cdX8_findSame, F1, hT'.1, hT'.2.1, hT'.2.2]
          refine ⟨fun _ => ⟨vp_in_nI (by omega) (by omega), ?_⟩, fun c => absurd ((i_le (by omega) (by omega)).mpr (Nat.le_refl _)) c⟩
          rw [nI_1, i_cl (by omega)]
          refine ih (o + 1) _ _ _ _ (by omega) (by omega) (by omega) (hT'.setE _) (fun q hqn => ?_) (fun k hk => by rw [hset_n _ _ (by omega)]; exact hO k hk)
          by_cases hqo : q = o
          · subst hqo
            rw [if_pos ⟨by omega, by omega⟩]
            simp [upd, smE]
          · simp only [upd, hqo, if_false]
            rw [hE q hqn]
            by_cases hc : a ≤ q ∧ q < o
            · rw [if_pos hc, if_pos ⟨hc.1, by omega⟩]
            · rw [if_neg hc, if_neg (fun x => hc ⟨x.1, by omega⟩)]
        | succ m2 ih2 =>
          intro o hm2 ho
          refine go_ok okF1 (C := cdX8_findSame) (by rfl) [6, 27] 20 (by exact Nat.le_of_ble_eq_true rfl) ?_
          simp (maxSteps := 2000000) only [go, stp, inS, ↓reduceIte, Bool.false_eq_true, Nat.reduceLT, Nat.reduceEqDiff, Nat.reduceAdd, ldI, ldL, ldA, st1, st2, okS, List.getElem?_cons_zero, List.getElem?_cons_succ, List.length_cons, List.length_nil, List.set_cons_zero, List.set_cons_succ, callP, callF, popN, ct, Value.category, cI, List.getD_cons_zero, List.getD_cons_succ, and_self, and_true, true_and, Nat.zero_le, Nat.reduceLeDiff, Nat.add_zero, Nat.zero_add, List.nil_append, List.cons_append, Option.toList_some, Option.toList_none, List.append_nil, hset_ss, true_or, or_true, eq_self, beq_self_eq_true, List.drop_succ_cons, List.drop_zero, swT, swL, hset_ap, not_true_eq_false, not_false_eq_true, true_implies, false_implies, implies_true, Int32.reduceLE, Int32.reduceLT, Int32.reduceAdd, Int32.reduceSub, Int32.reduceOfInt, Int32.reduceToNatClampNeg, i10, i01, Nat.add_left_cancel_iff, Nat.left_eq_add, Nat.add_eq_left, cdX8_findSame, F1, hT'.1, hT'.2.1, hT'.2.2]
          refine ⟨fun c => absurd ((i_le (by omega) (by omega)).mp c) (by omega), fun _ => ?_⟩
          refine T_isSame hT' h1 h2 (by omega) hlt ?_
          refine go_ok okF1 (C := cdX8_findSame) (by rfl) [6, 27] 20 (by exact Nat.le_of_ble_eq_true rfl) ?_
          simp (maxSteps := 2000000) only [go, stp, inS, ↓reduceIte, Bool.false_eq_true, Nat.reduceLT, Nat.reduceEqDiff, Nat.reduceAdd, ldI, ldL, ldA, st1, st2, okS, List.getElem?_cons_zero, List.getElem?_cons_succ, List.length_cons, List.length_nil, List.set_cons_zero, List.set_cons_succ, callP, callF, popN, ct, Value.category, cI, List.getD_cons_zero, List.getD_cons_succ, and_self, and_true, true_and, Nat.zero_le, Nat.reduceLeDiff, Nat.add_zero, Nat.zero_add, List.nil_append, List.cons_append, Option.toList_some, Option.toList_none, List.append_nil, hset_ss, true_or, or_true, eq_self, beq_self_eq_true, List.drop_succ_cons, List.drop_zero, swT, swL, hset_ap, not_true_eq_false, not_false_eq_true, true_implies, false_implies, implies_true, Int32.reduceLE, Int32.reduceLT, Int32.reduceAdd, Int32.reduceSub, Int32.reduceOfInt, Int32.reduceToNatClampNeg, i10, i01, Nat.add_left_cancel_iff, Nat.left_eq_add, Nat.add_eq_left, cdX8_findSame, F1, hT'.1, ib0]
          have h3 := ih2 (o + 1) (by omega) (by omega)
          rw [mB] at h3
          rw [nI_1]
          refine ⟨fun c => ?_, fun c => ?_⟩
          · rw [if_neg c] at h3; exact h3
          · rw [if_pos (Classical.not_not.mp c)] at h3; exact h3
      exact inner r 0 rfl (by omega)
  exact outer _ a _ _ h sE rfl (Nat.le_refl _) ha hT (fun q _ => by rw [if_neg (by omega)]) sOff.rf
