
/-! GrownAsks$Sides, GrownAsks$Engine: values by rows -/
def SdAt (h : aH) (t : Nat) (a b c d e : Int32) : Prop := h t = some (.inl (6, [.int a, .int b, .int c, .int d, .int e]))
set_option maxRecDepth 100000 in
set_option maxHeartbeats 400000 in
theorem D_weighIn {n : Nat} {h : aH} {Q : aQ} {t : Nat} {a b c d e bit x y : Int32} (hT : SdAt h t a b c d e)
    (hq : ∀ h', SdAt h' t (a ||| (if ¬ x = -100 ∧ ¬ y = -100 ∧ x < y then bit else 0)) (b ||| (if ¬ x = -100 ∧ ¬ y = -100 ∧ x = y then bit else 0)) (c ||| (if ¬ x = -100 ∧ ¬ y = -100 ∧ y < x then bit else 0)) (d ||| (if x = -100 ∨ y = -100 then bit else 0)) (e ||| (if x = -100 ∧ y = -100 then bit else 0)) → sOff h h' t (t + 1) → Q none n h') : Ok 47 [.ref t, .int bit, .int x, .int y] n h Q := by
  unfold SdAt at hT hq
  have o0 : ∀ v : Int32, v ||| 0 = v := fun v => by refine b_ext fun i hi => ?_; rw [b_or, b_0, Bool.or_false]
  have key : ∀ (fs : List Value), (fs = [.int (a ||| (if ¬ x = -100 ∧ ¬ y = -100 ∧ x < y then bit else 0)), .int (b ||| (if ¬ x = -100 ∧ ¬ y = -100 ∧ x = y then bit else 0)), .int (c ||| (if ¬ x = -100 ∧ ¬ y = -100 ∧ y < x then bit else 0)), .int (d ||| (if x = -100 ∨ y = -100 then bit else 0)), .int (e ||| (if x = -100 ∧ y = -100 then bit else 0))]) → Q none n (hset h t (.inl (6, fs))) := fun fs hfs => hq _ (by rw [hset_s, hfs]) (sOff.rf.set (by omega) (by omega))
  refine ok_of kMX6_weighIn kCX6_weighIn (Nat.le_of_ble_eq_true rfl) (fun z => ?_)
  change A z _ _ 0 0 _ 0 [some (.ref t), some (.int bit), some (.int x), some (.int y)] [] _
  refine go_ok okF1 (C := cdX6_weighIn) (by rfl) [] 60 (by exact Nat.le_of_ble_eq_true rfl) ?_
  simp (maxSteps := 2000000) only [go, stp, inS, ↓reduceIte, Bool.false_eq_true, Nat.reduceLT, Nat.reduceEqDiff, Nat.reduceAdd, ldI, ldL, ldA, st1, st2, okS, List.getElem?_cons_zero, List.getElem?_cons_succ, List.length_cons, List.length_nil, List.set_cons_zero, List.set_cons_succ, callP, callF, popN, ct, Value.category, cI, List.getD_cons_zero, List.getD_cons_succ, and_self, and_true, true_and, Nat.zero_le, Nat.reduceLeDiff, Nat.add_zero, Nat.zero_add, List.nil_append, List.cons_append, Option.toList_some, Option.toList_none, List.append_nil, hset_ss, true_or, or_true, eq_self, beq_self_eq_true, List.drop_succ_cons, List.drop_zero, swT, swL, hset_ap, not_true_eq_false, not_false_eq_true, true_implies, false_implies, implies_true, Int32.reduceLE, Int32.reduceLT, Int32.reduceAdd, Int32.reduceSub, Int32.reduceOfInt, Int32.reduceToNatClampNeg, i10, i01, Nat.add_left_cancel_iff, Nat.left_eq_add, Nat.add_eq_left, cdX6_weighIn, F1, hT]
  have lt_ne : ∀ {u v : Int32}, u < v → ¬ u = v ∧ ¬ v < u := fun {u v} q => by
    rw [Int32.lt_iff_toInt_lt] at q ⊢
    exact ⟨fun w => by subst w; omega, by omega⟩
  have ge_ne : ∀ {u v : Int32}, ¬ u < v → ¬ u = v → v < u := fun {u v} q w => by
    rw [Int32.lt_iff_toInt_lt] at q ⊢
    rw [← Int32.toInt_inj] at w
    omega
  have irr : ∀ u : Int32, ¬ u < u := fun u q => by rw [Int32.lt_iff_toInt_lt] at q; omega
  refine ⟨fun c1 => ⟨fun c2 => key _ ?_, fun c2 => key _ ?_⟩, fun c1 => ⟨fun c2 => ⟨fun c3 => ⟨fun c4 => key _ ?_, fun c4 => key _ ?_⟩, fun c3 => key _ ?_⟩, fun c2 => ⟨fun c3 => key _ ?_, fun c3 => key _ ?_⟩⟩⟩
  all_goals sorry
