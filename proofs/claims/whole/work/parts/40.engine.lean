
/-! GrownAsks$Sides, GrownAsks$Engine: values by rows -/
def SdAt (h : aH) (t : Nat) (a b c d e : Int32) : Prop := h t = some (.inl (6, [.int a, .int b, .int c, .int d, .int e]))
set_option maxRecDepth 100000 in
set_option maxHeartbeats 400000 in
theorem D_weighIn {n : Nat} {h : aH} {Q : aQ} {t : Nat} {a b c d e bit x y : Int32} (hT : SdAt h t a b c d e)
    (hq : ∀ h', SdAt h' t (a ||| (if ¬ x = -100 ∧ ¬ y = -100 ∧ x < y then bit else 0)) (b ||| (if ¬ x = -100 ∧ ¬ y = -100 ∧ x = y then bit else 0)) (c ||| (if ¬ x = -100 ∧ ¬ y = -100 ∧ y < x then bit else 0)) (d ||| (if x = -100 ∨ y = -100 then bit else 0)) (e ||| (if x = -100 ∧ y = -100 then bit else 0)) → sOff h h' t (t + 1) → Q none n h') : Ok 47 [.ref t, .int bit, .int x, .int y] n h Q := by
  unfold SdAt at hT hq
  have o0 : ∀ v : Int32, v ||| 0 = v := fun v => by refine b_ext fun i hi => ?_; rw [b_or, b_0, Bool.or_false]
  have key : ∀ (fs : List Value), (fs = [.int (a ||| (if ¬ x = -100 ∧ ¬ y = -100 ∧ x < y then bit else 0)), .int (b ||| (if ¬ x = -100 ∧ ¬ y = -100 ∧ x = y then bit else 0)), .int (c ||| (if ¬ x = -100 ∧ ¬ y = -100 ∧ y < x then bit else 0)), .int (d ||| (if x = -100 ∨ y = -100 then bit else 0)), .int (e ||| (if x = -100 ∧ y = -100 then bit else 0))]) → Q none n (hset h t (.inl (6, fs))) := fun fs hfs => hq _ (by rw [hset_s, hfs]) (sOff.rf.set (by omega) (by omega))
  refine ok_of kMX6_weighIn kCX6_weighIn (Nat.le_of_ble_eq_true rfl) (fun z => ?_)
  change A z _ _ 0 0 _ 0 [some (.ref t), some (.int bit), some (.int x), some (.int y)] [] _
  refine go_ok okF1 (C := cdX6_weighIn) (by rfl) [] 60 (by exact Nat.le_of_ble_eq_true rfl) ?_
  simp (maxSteps := 2000000) only [go, stp, inS, ↓reduceIte, Bool.false_eq_true, Nat.reduceLT, Nat.reduceEqDiff, Nat.reduceAdd, ldI, ldL, ldA, st1, st2, okS, List.getElem?_cons_zero, List.getElem?_cons_succ, List.length_cons, List.length_nil, List.set_cons_zero, List.set_cons_succ, callP, callF, popN, ct, Value.category, cI, List.getD_cons_zero, List.getD_cons_succ, and_self, and_true, true_and, Nat.zero_le, Nat.reduceLeDiff, Nat.add_zero, Nat.zero_add, List.nil_append, List.cons_append, Option.toList_some, Option.toList_none, List.append_nil, hset_ss, true_or, or_true, eq_self, beq_self_eq_true, List.drop_succ_cons, List.drop_zero, swT, swL, hset_ap, not_true_eq_false, not_false_eq_true, true_implies, false_implies, implies_true, Int32.reduceLE, Int32.reduceLT, Int32.reduceAdd, Int32.reduceSub, Int32.reduceOfInt, Int32.reduceToNatClampNeg, i10, i01, Nat.add_left_cancel_iff, Nat.left_eq_add, Nat.add_eq_left, cdX6_weighIn, F1, hT]
  have lt_ne : ∀ {u v : Int32}, u < v → ¬ u = v ∧ ¬ v < u := fun {u v} q => by
    rw [Int32.lt_iff_toInt_lt] at q ⊢
    exact ⟨fun w => by subst w; omega, by omega⟩
  have ge_ne : ∀ {u v : Int32}, ¬ u < v → ¬ u = v → v < u := fun {u v} q w => by
    rw [Int32.lt_iff_toInt_lt] at q ⊢
    rw [← Int32.toInt_inj] at w
    omega
  have irr : ∀ u : Int32, ¬ u < u := fun u q => by rw [Int32.lt_iff_toInt_lt] at q; omega
  refine ⟨fun c1 => ⟨fun c2 => key _ ?_, fun c2 => key _ ?_⟩, fun c1 => ⟨fun c2 => ⟨fun c3 => ⟨fun c4 => key _ ?_, fun c4 => key _ ?_⟩, fun c3 => key _ ?_⟩, fun c2 => ⟨fun c3 => key _ ?_, fun c3 => key _ ?_⟩⟩⟩
  · subst c1
    have hy : ¬ y = -100 := fun q => c2 q.symm
    simp [o0, hy]
  · subst c1; subst c2
    simp [o0]
  · have c5 := ge_ne (i_nlt.mpr c3) c4
    simp [o0, c1, c2, c5, c4, (lt_ne c5).2]
  · subst c4
    simp [o0, c1, irr]
  · have c5 := i_nle.mp c3
    simp [o0, c1, c2, c5, (lt_ne c5).1, (lt_ne c5).2]
  · subst c2
    simp [o0, c1]
  · exact absurd (c3.trans c2) c1
set_option maxRecDepth 100000 in
set_option maxHeartbeats 400000 in
theorem D_weigh {n : Nat} {h : aH} {Q : aQ} {t tb most : Nat} {f sE : Nat → Int32} {nr : Nat} {a b c d e τ1 τ2 : Int32} (hS : SdAt h t a b c d e) (hT : TbAt h tb most f sE nr) (h1 : nr ≤ most) (h2 : most ≤ 12) (hd : t < tb ∨ tb + 3 ≤ t) (ht1 : tmOk τ1) (ht2 : tmOk τ2)
    (hq : ∀ h', SdAt h' t (mB nr (fun r => decide (¬ tv f r τ1 = -100 ∧ ¬ tv f r τ2 = -100 ∧ tv f r τ1 < tv f r τ2))) (mB nr (fun r => decide (¬ tv f r τ1 = -100 ∧ ¬ tv f r τ2 = -100 ∧ tv f r τ1 = tv f r τ2))) (mB nr (fun r => decide (¬ tv f r τ1 = -100 ∧ ¬ tv f r τ2 = -100 ∧ tv f r τ2 < tv f r τ1))) (mB nr (fun r => decide (tv f r τ1 = -100 ∨ tv f r τ2 = -100))) (mB nr (fun r => decide (tv f r τ1 = -100 ∧ tv f r τ2 = -100))) → sOff h h' t (t + 1) → Q none n h') : Ok 46 [.ref t, .ref tb, .int τ1, .int τ2] n h Q := by
  unfold SdAt at hS
  refine ok_of kMX6_weigh kCX6_weigh (Nat.le_of_ble_eq_true rfl) (fun z => ?_)
  change A z _ _ 0 0 _ 0 [some (.ref t), some (.ref tb), some (.int τ1), some (.int τ2), none] [] _
  refine go_ok okF1 (C := cdX6_weigh) (by rfl) [28] 60 (by exact Nat.le_of_ble_eq_true rfl) ?_
  simp (maxSteps := 2000000) only [go, stp, inS, ↓reduceIte, Bool.false_eq_true, Nat.reduceLT, Nat.reduceEqDiff, Nat.reduceAdd, ldI, ldL, ldA, st1, st2, okS, List.getElem?_cons_zero, List.getElem?_cons_succ, List.length_cons, List.length_nil, List.set_cons_zero, List.set_cons_succ, callP, callF, popN, ct, Value.category, cI, List.getD_cons_zero, List.getD_cons_succ, and_self, and_true, true_and, Nat.zero_le, Nat.reduceLeDiff, Nat.add_zero, Nat.zero_add, List.nil_append, List.cons_append, Option.toList_some, Option.toList_none, List.append_nil, hset_ss, true_or, or_true, eq_self, beq_self_eq_true, List.drop_succ_cons, List.drop_zero, swT, swL, hset_ap, not_true_eq_false, not_false_eq_true, true_implies, false_implies, implies_true, Int32.reduceLE, Int32.reduceLT, Int32.reduceAdd, Int32.reduceSub, Int32.reduceOfInt, Int32.reduceToNatClampNeg, i10, i01, Nat.add_left_cancel_iff, Nat.left_eq_add, Nat.add_eq_left, cdX6_weigh, F1, hS]
  have loop : ∀ m r (h' : aH), nr - r = m → r ≤ nr → SdAt h' t (mB r (fun r => decide (¬ tv f r τ1 = -100 ∧ ¬ tv f r τ2 = -100 ∧ tv f r τ1 < tv f r τ2))) (mB r (fun r => decide (¬ tv f r τ1 = -100 ∧ ¬ tv f r τ2 = -100 ∧ tv f r τ1 = tv f r τ2))) (mB r (fun r => decide (¬ tv f r τ1 = -100 ∧ ¬ tv f r τ2 = -100 ∧ tv f r τ2 < tv f r τ1))) (mB r (fun r => decide (tv f r τ1 = -100 ∨ tv f r τ2 = -100))) (mB r (fun r => decide (tv f r τ1 = -100 ∧ tv f r τ2 = -100))) → sOff h h' t (t + 1) →
      A z 46 n 0 0 h' 28 [some (.ref t), some (.ref tb), some (.int τ1), some (.int τ2), some (.int (nI r))] [] Q := by
    intro m
    induction m with
    | zero =>
      intro r h' hm hr hS' hO
      have : r = nr := by omega
      subst this
      have hT' : TbAt h' tb most f sE r := hT.kept (fun k h3 h4 => hO k (by omega))
      refine go_ok okF1 (C := cdX6_weigh) (by rfl) [28] 60 (by exact Nat.le_of_ble_eq_true rfl) ?_
      simp (maxSteps := 2000000) only [go, stp, inS, ↓reduceIte, Bool.false_eq_true, Nat.reduceLT, Nat.reduceEqDiff, Nat.reduceAdd, ldI, ldL, ldA, st1, st2, okS, List.getElem?_cons_zero, List.getElem?_cons_succ, List.length_cons, List.length_nil, List.set_cons_zero, List.set_cons_succ, callP, callF, popN, ct, Value.category, cI, List.getD_cons_zero, List.getD_cons_succ, and_self, and_true, true_and, Nat.zero_le, Nat.reduceLeDiff, Nat.add_zero, Nat.zero_add, List.nil_append, List.cons_append, Option.toList_some, Option.toList_none, List.append_nil, hset_ss, true_or, or_true, eq_self, beq_self_eq_true, List.drop_succ_cons, List.drop_zero, swT, swL, hset_ap, not_true_eq_false, not_false_eq_true, true_implies, false_implies, implies_true, Int32.reduceLE, Int32.reduceLT, Int32.reduceAdd, Int32.reduceSub, Int32.reduceOfInt, Int32.reduceToNatClampNeg, i10, i01, Nat.add_left_cancel_iff, Nat.left_eq_add, Nat.add_eq_left, cdX6_weigh, F1, hT'.1]
      exact ⟨fun _ => hq h' hS' hO, fun c => absurd ((i_le (by omega) (by omega)).mpr (Nat.le_refl _)) c⟩
    | succ m ih =>
      intro r h' hm hr hS' hO
      have hlt : r < nr := by omega
      have hT' : TbAt h' tb most f sE nr := hT.kept (fun k h3 h4 => hO k (by omega))
      refine go_ok okF1 (C := cdX6_weigh) (by rfl) [28] 60 (by exact Nat.le_of_ble_eq_true rfl) ?_
      simp (maxSteps := 2000000) only [go, stp, inS, ↓reduceIte, Bool.false_eq_true, Nat.reduceLT, Nat.reduceEqDiff, Nat.reduceAdd, ldI, ldL, ldA, st1, st2, okS, List.getElem?_cons_zero, List.getElem?_cons_succ, List.length_cons, List.length_nil, List.set_cons_zero, List.set_cons_succ, callP, callF, popN, ct, Value.category, cI, List.getD_cons_zero, List.getD_cons_succ, and_self, and_true, true_and, Nat.zero_le, Nat.reduceLeDiff, Nat.add_zero, Nat.zero_add, List.nil_append, List.cons_append, Option.toList_some, Option.toList_none, List.append_nil, hset_ss, true_or, or_true, eq_self, beq_self_eq_true, List.drop_succ_cons, List.drop_zero, swT, swL, hset_ap, not_true_eq_false, not_false_eq_true, true_implies, false_implies, implies_true, Int32.reduceLE, Int32.reduceLT, Int32.reduceAdd, Int32.reduceSub, Int32.reduceOfInt, Int32.reduceToNatClampNeg, i10, i01, Nat.add_left_cancel_iff, Nat.left_eq_add, Nat.add_eq_left, cdX6_weigh, F1, hT'.1]
      refine ⟨fun c => absurd ((i_le (by omega) (by omega)).mp c) (by omega), fun _ => ?_⟩
      refine T_valueOf hT' h1 h2 hlt ht1 ?_
      refine go_ok okF1 (C := cdX6_weigh) (by rfl) [28] 60 (by exact Nat.le_of_ble_eq_true rfl) ?_
      simp (maxSteps := 2000000) only [go, stp, inS, ↓reduceIte, Bool.false_eq_true, Nat.reduceLT, Nat.reduceEqDiff, Nat.reduceAdd, ldI, ldL, ldA, st1, st2, okS, List.getElem?_cons_zero, List.getElem?_cons_succ, List.length_cons, List.length_nil, List.set_cons_zero, List.set_cons_succ, callP, callF, popN, ct, Value.category, cI, List.getD_cons_zero, List.getD_cons_succ, and_self, and_true, true_and, Nat.zero_le, Nat.reduceLeDiff, Nat.add_zero, Nat.zero_add, List.nil_append, List.cons_append, Option.toList_some, Option.toList_none, List.append_nil, hset_ss, true_or, or_true, eq_self, beq_self_eq_true, List.drop_succ_cons, List.drop_zero, swT, swL, hset_ap, not_true_eq_false, not_false_eq_true, true_implies, false_implies, implies_true, Int32.reduceLE, Int32.reduceLT, Int32.reduceAdd, Int32.reduceSub, Int32.reduceOfInt, Int32.reduceToNatClampNeg, i10, i01, Nat.add_left_cancel_iff, Nat.left_eq_add, Nat.add_eq_left, cdX6_weigh, F1, hT'.1]
      refine T_valueOf hT' h1 h2 hlt ht2 ?_
      refine go_ok okF1 (C := cdX6_weigh) (by rfl) [28] 60 (by exact Nat.le_of_ble_eq_true rfl) ?_
      simp (maxSteps := 2000000) only [go, stp, inS, ↓reduceIte, Bool.false_eq_true, Nat.reduceLT, Nat.reduceEqDiff, Nat.reduceAdd, ldI, ldL, ldA, st1, st2, okS, List.getElem?_cons_zero, List.getElem?_cons_succ, List.length_cons, List.length_nil, List.set_cons_zero, List.set_cons_succ, callP, callF, popN, ct, Value.category, cI, List.getD_cons_zero, List.getD_cons_succ, and_self, and_true, true_and, Nat.zero_le, Nat.reduceLeDiff, Nat.add_zero, Nat.zero_add, List.nil_append, List.cons_append, Option.toList_some, Option.toList_none, List.append_nil, hset_ss, true_or, or_true, eq_self, beq_self_eq_true, List.drop_succ_cons, List.drop_zero, swT, swL, hset_ap, not_true_eq_false, not_false_eq_true, true_implies, false_implies, implies_true, Int32.reduceLE, Int32.reduceLT, Int32.reduceAdd, Int32.reduceSub, Int32.reduceOfInt, Int32.reduceToNatClampNeg, i10, i01, Nat.add_left_cancel_iff, Nat.left_eq_add, Nat.add_eq_left, cdX6_weigh, F1, hT'.1, (show h' t = _ from hS')]
      refine D_weighIn hS' (fun h'' hS'' hO'' => ?_)
      refine go_ok okF1 (C := cdX6_weigh) (by rfl) [28] 60 (by exact Nat.le_of_ble_eq_true rfl) ?_
      simp (maxSteps := 2000000) only [go, stp, inS, ↓reduceIte, Bool.false_eq_true, Nat.reduceLT, Nat.reduceEqDiff, Nat.reduceAdd, ldI, ldL, ldA, st1, st2, okS, List.getElem?_cons_zero, List.getElem?_cons_succ, List.length_cons, List.length_nil, List.set_cons_zero, List.set_cons_succ, callP, callF, popN, ct, Value.category, cI, List.getD_cons_zero, List.getD_cons_succ, and_self, and_true, true_and, Nat.zero_le, Nat.reduceLeDiff, Nat.add_zero, Nat.zero_add, List.nil_append, List.cons_append, Option.toList_some, Option.toList_none, List.append_nil, hset_ss, true_or, or_true, eq_self, beq_self_eq_true, List.drop_succ_cons, List.drop_zero, swT, swL, hset_ap, not_true_eq_false, not_false_eq_true, true_implies, false_implies, implies_true, Int32.reduceLE, Int32.reduceLT, Int32.reduceAdd, Int32.reduceSub, Int32.reduceOfInt, Int32.reduceToNatClampNeg, i10, i01, Nat.add_left_cancel_iff, Nat.left_eq_add, Nat.add_eq_left, cdX6_weigh, F1, nI_1]
      refine ih (r + 1) h'' (by omega) (by omega) ?_ (hO.tr hO'')
      simp only [mB, decide_eq_true_eq]
      exact hS''
  exact loop nr 0 _ (by omega) (Nat.zero_le _) (hset_s _ _ _) (sOff.rf.set (by omega) (by omega))
/-! a value for each row, as a mask -/
def enc (nr : Nat) (V : Nat → Nat) : Int32 := mB 32 (fun i => if i < 16 then decide (i < nr ∧ V i = 1) else decide (i - 16 < nr ∧ V (i - 16) = 2))
theorem e_y (nr : Nat) (V : Nat → Nat) {i : Nat} (h : i < 16) : bt (enc nr V) i = decide (i < nr ∧ V i = 1) := by
  unfold enc
  rw [b_mB _ 32 (by omega) i (by omega), if_pos h]; simp; omega
theorem e_n (nr : Nat) (V : Nat → Nat) {i : Nat} (h : i < 16) : bt (enc nr V) (16 + i) = decide (i < nr ∧ V i = 2) := by
  unfold enc
  rw [b_mB _ 32 (by omega) _ (by omega), if_neg (by omega), show 16 + i - 16 = i by omega]; simp; omega
theorem e_n' (nr : Nat) (V : Nat → Nat) {i : Nat} (h : i < 16) : bt (enc nr V) (i + 16) = decide (i < nr ∧ V i = 2) := by rw [Nat.add_comm]; exact e_n nr V h
theorem enc_ext {nr : Nat} {V : Nat → Nat} {x : Int32} (h : ∀ i, i < 16 → bt x i = decide (i < nr ∧ V i = 1) ∧ bt x (16 + i) = decide (i < nr ∧ V i = 2)) : x = enc nr V := by
  refine b_ext fun i hi => ?_
  by_cases h1 : i < 16
  · rw [(h i h1).1, e_y nr V h1]
  · have := (h (i - 16) (by omega)).2
    rw [show 16 + (i - 16) = i by omega] at this
    rw [this, ← e_n nr V (show i - 16 < 16 by omega), show 16 + (i - 16) = i by omega]
def alm (nr : Nat) : Int32 := ((1 : Int32) <<< (nI nr &&& 31)) - 1
theorem b_alm {nr i : Nat} (h : nr < 17) (hi : i < 32) : bt (alm nr) i = decide (i < nr) := b_all nr h i hi
theorem b_u16 (x : Int32) (i : Nat) : bt ((x.toUInt32 >>> ((16 : Int32).toUInt32 &&& Int32.toUInt32 31)).toInt32) i = bt x (16 + i) := b_ushr 16 (by omega) x i
theorem b_s16 (x : Int32) {i : Nat} (hi : i < 32) : bt (x <<< ((16 : Int32) &&& 31)) i = (decide (16 ≤ i) && bt x (i - 16)) := b_shl 16 (by omega) x hi
-- a mask of two halves
theorem enc_of {nr : Nat} {V : Nat → Nat} {y w : Int32} (hy : ∀ i, i < 32 → bt y i = decide (i < nr ∧ V i = 1)) (hw : ∀ i, i < 16 → bt w i = decide (i < nr ∧ V i = 2)) (hn : nr ≤ 16) : y ||| (w <<< ((16 : Int32) &&& 31)) = enc nr V := by
  refine enc_ext fun i hi => ⟨?_, ?_⟩
  · rw [b_or, hy i (by omega), b_s16 w (by omega)]; simp; omega
  · rw [b_or, hy (16 + i) (by omega), b_s16 w (by omega), show 16 + i - 16 = i by omega, hw i hi]
    simp; omega
theorem b_noE {nr : Nat} {V : Nat → Nat} (hn : nr ≤ 16) (hV : ∀ r, r < nr → V r ≤ 2) {i : Nat} (hi : i < 32) : bt (alm nr &&& (enc nr V ^^^ (-1)) &&& ((((enc nr V).toUInt32 >>> ((16 : Int32).toUInt32 &&& Int32.toUInt32 31)).toInt32) ^^^ (-1))) i = decide (i < nr ∧ V i = 0) := by
  rw [b_and, b_and, b_alm (by omega) hi, b_not _ hi, b_not _ hi, b_u16]
  by_cases h : i < nr
  · rw [e_y nr V (by omega), e_n nr V (by omega)]
    have := hV i h
    rcases (show V i = 0 ∨ V i = 1 ∨ V i = 2 by omega) with e | e | e <;> simp [h, e]
  · simp [h]
theorem b_yE {nr : Nat} {V : Nat → Nat} (hn : nr ≤ 16) {i : Nat} : bt (enc nr V &&& 65535) i = decide (i < nr ∧ V i = 1) := by
  rw [b_and, b_65535]
  by_cases h : i < 16
  · rw [e_y nr V h]; simp [h]
  · simp [h]; omega
theorem b_nE {nr : Nat} {V : Nat → Nat} (hn : nr ≤ 16) {i : Nat} : bt (((enc nr V).toUInt32 >>> ((16 : Int32).toUInt32 &&& Int32.toUInt32 31)).toInt32) i = decide (i < nr ∧ V i = 2) := by
  rw [b_u16]
  by_cases h : i < 16
  · rw [e_n nr V h]
  · rw [b_big (by omega)]; simp; omega
