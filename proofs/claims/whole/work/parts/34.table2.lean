
theorem sameB_upd {f g : Nat → Int32} {a b nr : Nat} (ha : a < nr) (hb : b < nr) (hk : ∀ q, q < nr * 3 → g q = f q) : sameB g a b = sameB f a b := by
  unfold sameB
  rw [hk (a * 3) (by omega), hk (a * 3 + 1) (by omega), hk (a * 3 + 2) (by omega), hk (b * 3) (by omega), hk (b * 3 + 1) (by omega), hk (b * 3 + 2) (by omega)]
theorem smE_upd {f g : Nat → Int32} {r nr : Nat} (hr : r < nr) (hk : ∀ q, q < nr * 3 → g q = f q) : smE g r = smE f r := mB_ext fun o ho => sameB_upd (by omega) hr hk
def upd3 (f : Nat → Int32) (k : Nat) (a b c : Int32) : Nat → Int32 := upd (upd (upd f k a) (k + 1) b) (k + 2) c
theorem upd3_lt {f : Nat → Int32} {k q : Nat} {a b c : Int32} (h : q < k) : upd3 f k a b c q = f q := by
  unfold upd3
  rw [pk_un (by omega), pk_un (by omega), pk_un (by omega)]
set_option maxRecDepth 100000 in
set_option maxHeartbeats 400000 in
theorem T_append {n : Nat} {h : aH} {Q : aQ} {t most : Nat} {f sE : Nat → Int32} {nr : Nat} {a b c : Int32} (hT : TbAt h t most f sE nr) (h1 : nr ≤ most) (h2 : most ≤ 12) (hE : SEok f sE nr)
    (hq0 : nr = most → Q (some (.int 0)) n h)
    (hq1 : nr < most → ∀ h' sE', TbAt h' t most (upd3 f (nr * 3) a b c) sE' (nr + 1) → SEok (upd3 f (nr * 3) a b c) sE' (nr + 1) → sOff h h' t (t + 3) → Q (some (.int 1)) n h') : Ok 55 [.ref t, .int a, .int b, .int c] n h Q := by
  obtain ⟨e0, e1, e2⟩ := hT
  have n1 : ∀ x, hset x (t + 1) = hset x (t + 1) := fun _ => rfl
  refine ok_of kMX8_append kCX8_append (Nat.le_of_ble_eq_true rfl) (fun z => ?_)
  change A z _ _ 0 0 _ 0 [some (.ref t), some (.int a), some (.int b), some (.int c), none] [] _
  refine go_ok okF1 (C := cdX8_append) (by rfl) [] 60 (by exact Nat.le_of_ble_eq_true rfl) ?_
  simp (maxSteps := 2000000) only [go, stp, inS, ↓reduceIte, Bool.false_eq_true, Nat.reduceLT, Nat.reduceEqDiff, Nat.reduceAdd, ldI, ldL, ldA, st1, st2, okS, List.getElem?_cons_zero, List.getElem?_cons_succ, List.length_cons, List.length_nil, List.set_cons_zero, List.set_cons_succ, callP, callF, popN, ct, Value.category, cI, List.getD_cons_zero, List.getD_cons_succ, and_self, and_true, true_and, Nat.zero_le, Nat.reduceLeDiff, Nat.add_zero, Nat.zero_add, List.nil_append, List.cons_append, Option.toList_some, Option.toList_none, List.append_nil, hset_ss, true_or, or_true, eq_self, beq_self_eq_true, List.drop_succ_cons, List.drop_zero, swT, swL, hset_ap, not_true_eq_false, not_false_eq_true, true_implies, false_implies, implies_true, Int32.reduceLE, Int32.reduceLT, Int32.reduceAdd, Int32.reduceSub, Int32.reduceOfInt, Int32.reduceToNatClampNeg, i10, i01, Nat.add_left_cancel_iff, Nat.left_eq_add, Nat.add_eq_left, cdX8_append, F1, e0, e1, e2]
  refine ⟨fun c => absurd c (i_nn (by omega)), fun _ => ⟨fun c0 => ?_, fun c0 => hq0 ?_⟩⟩
  · have hlt : nr < most := (i_lt (by omega) (by omega)).mp c0
    have i0 : nI nr * 3 = nI (nr * 3) := by rw [show (3 : Int32) = nI 3 from rfl, pk_mul]
    have i1 : nI (nr * 3) + 1 = nI (nr * 3 + 1) := nI_1 _
    have i2 : nI (nr * 3) + 2 = nI (nr * 3 + 2) := nI_add _ 2
    rw [i0]
    simp only [i1, i2, i_cl (show nr * 3 < 2147483648 by omega), i_cl (show nr * 3 + 1 < 2147483648 by omega), i_cl (show nr * 3 + 2 < 2147483648 by omega)]
    refine ⟨vp_in_nI (by omega) (by omega), vp_in_nI (by omega) (by omega), vp_in_nI (by omega) (by omega), ?_⟩
    have hx : nI nr + 1 - 1 = nI nr := by rw [nI_1, show (1 : Int32) = nI 1 from rfl, pk_sub (by omega)]; rfl
    rw [hx, nI_1]
    have hT1 : TbAt (hset (hset h (t + 1) (.inr (most * 3, .inl (upd3 f (nr * 3) a b c)))) t (.inl (8, [.int (nI most), .ref (t + 1), .ref (t + 2), .int (nI (nr + 1))]))) t most (upd3 f (nr * 3) a b c) sE (nr + 1) := ⟨by simp [hset_ap], by simp [hset_ap], by simp [hset_ap, e2]⟩
    refine T_findSame hT1 (by omega) h2 (Nat.le_succ nr) (fun h' sE' hT' hE' hO' => ?_)
    refine go_ok okF1 (C := cdX8_append) (by rfl) [] 10 (by exact Nat.le_of_ble_eq_true rfl) ?_
    simp (maxSteps := 2000000) only [go, stp, inS, ↓reduceIte, Bool.false_eq_true, Nat.reduceLT, Nat.reduceEqDiff, Nat.reduceAdd, ldI, ldL, ldA, st1, st2, okS, List.getElem?_cons_zero, List.getElem?_cons_succ, List.length_cons, List.length_nil, List.set_cons_zero, List.set_cons_succ, callP, callF, popN, ct, Value.category, cI, List.getD_cons_zero, List.getD_cons_succ, and_self, and_true, true_and, Nat.zero_le, Nat.reduceLeDiff, Nat.add_zero, Nat.zero_add, List.nil_append, List.cons_append, Option.toList_some, Option.toList_none, List.append_nil, hset_ss, true_or, or_true, eq_self, beq_self_eq_true, List.drop_succ_cons, List.drop_zero, swT, swL, hset_ap, not_true_eq_false, not_false_eq_true, true_implies, false_implies, implies_true, Int32.reduceLE, Int32.reduceLT, Int32.reduceAdd, Int32.reduceSub, Int32.reduceOfInt, Int32.reduceToNatClampNeg, i10, i01, Nat.add_left_cancel_iff, Nat.left_eq_add, Nat.add_eq_left, cdX8_append, F1]
    refine hq1 hlt h' sE' hT' (fun r hr => ?_) (fun k hk => ?_)
    · rw [hE' r hr]
      by_cases hc : nr ≤ r
      · rw [if_pos hc]
      · rw [if_neg hc, hE r (by omega)]
        exact (smE_upd (nr := nr) (by omega) (fun q hq => upd3_lt (by omega))).symm
    · rw [hO' k hk, hset_n _ _ (by omega), hset_n _ _ (by omega)]
  · have := i_nlt.mp c0
    have := (i_le (by omega) (by omega)).mp this
    omega
set_option maxRecDepth 100000 in
set_option maxHeartbeats 400000 in
theorem T_change {n : Nat} {h : aH} {Q : aQ} {t most : Nat} {f sE : Nat → Int32} {nr : Nat} {row col v : Int32} (hT : TbAt h t most f sE nr) (h1 : nr ≤ most) (h2 : most ≤ 12) (hE : SEok f sE nr) (hf : ∀ q, q < nr * 3 → ¬ f q = -1000)
    (hq0 : ¬ (0 ≤ row ∧ row < nI nr ∧ 0 ≤ col ∧ col < 3) → Q none n h)
    (hq1 : ∀ r c, row = nI r → col = nI c → r < nr → c < 3 → ∀ h' sE', TbAt h' t most (upd f (r * 3 + c) v) sE' nr → SEok (upd f (r * 3 + c) v) sE' nr → sOff h h' t (t + 3) → Q none n h') : Ok 57 [.ref t, .int row, .int col, .int v] n h Q := by
  refine ok_of kMX8_change kCX8_change (Nat.le_of_ble_eq_true rfl) (fun z => ?_)
  change A z _ _ 0 0 _ 0 [some (.ref t), some (.int row), some (.int col), some (.int v)] [] _
  refine go_ok okF1 (C := cdX8_change) (by rfl) [] 60 (by exact Nat.le_of_ble_eq_true rfl) ?_
  simp (maxSteps := 2000000) only [go, stp, inS, ↓reduceIte, Bool.false_eq_true, Nat.reduceLT, Nat.reduceEqDiff, Nat.reduceAdd, ldI, ldL, ldA, st1, st2, okS, List.getElem?_cons_zero, List.getElem?_cons_succ, List.length_cons, List.length_nil, List.set_cons_zero, List.set_cons_succ, callP, callF, popN, ct, Value.category, cI, List.getD_cons_zero, List.getD_cons_succ, and_self, and_true, true_and, Nat.zero_le, Nat.reduceLeDiff, Nat.add_zero, Nat.zero_add, List.nil_append, List.cons_append, Option.toList_some, Option.toList_none, List.append_nil, hset_ss, true_or, or_true, eq_self, beq_self_eq_true, List.drop_succ_cons, List.drop_zero, swT, swL, hset_ap, not_true_eq_false, not_false_eq_true, true_implies, false_implies, implies_true, Int32.reduceLE, Int32.reduceLT, Int32.reduceAdd, Int32.reduceSub, Int32.reduceOfInt, Int32.reduceToNatClampNeg, i10, i01, Nat.add_left_cancel_iff, Nat.left_eq_add, Nat.add_eq_left, cdX8_change, F1, hT.1]
  refine T_cell hT h1 h2 ?_
  refine go_ok okF1 (C := cdX8_change) (by rfl) [] 60 (by exact Nat.le_of_ble_eq_true rfl) ?_
  simp (maxSteps := 2000000) only [go, stp, inS, ↓reduceIte, Bool.false_eq_true, Nat.reduceLT, Nat.reduceEqDiff, Nat.reduceAdd, ldI, ldL, ldA, st1, st2, okS, List.getElem?_cons_zero, List.getElem?_cons_succ, List.length_cons, List.length_nil, List.set_cons_zero, List.set_cons_succ, callP, callF, popN, ct, Value.category, cI, List.getD_cons_zero, List.getD_cons_succ, and_self, and_true, true_and, Nat.zero_le, Nat.reduceLeDiff, Nat.add_zero, Nat.zero_add, List.nil_append, List.cons_append, Option.toList_some, Option.toList_none, List.append_nil, hset_ss, true_or, or_true, eq_self, beq_self_eq_true, List.drop_succ_cons, List.drop_zero, swT, swL, hset_ap, not_true_eq_false, not_false_eq_true, true_implies, false_implies, implies_true, Int32.reduceLE, Int32.reduceLT, Int32.reduceAdd, Int32.reduceSub, Int32.reduceOfInt, Int32.reduceToNatClampNeg, i10, i01, Nat.add_left_cancel_iff, Nat.left_eq_add, Nat.add_eq_left, cdX8_change, F1, hT.1, hT.2.1]
  by_cases hc : 0 ≤ row ∧ row < nI nr ∧ 0 ≤ col ∧ col < 3
  · obtain ⟨r, hr, rfl⟩ := i_of (n := nr) (by omega) (i_nlt.mpr hc.1) hc.2.1
    obtain ⟨c, hcc, rfl⟩ := i_of (n := 3) (by omega) (i_nlt.mpr hc.2.2.1) hc.2.2.2
    rw [cS_in (by omega) hr hcc]
    refine ⟨fun e => absurd e (hf _ (by omega)), fun _ => ?_⟩
    have hi : nI r * 3 + nI c = nI (r * 3 + c) := by rw [show (3 : Int32) = nI 3 from rfl, pk_mul, nI_add]
    rw [hi, i_cl (by omega)]
    refine ⟨vp_in_nI (by omega) (by omega), ?_⟩
    have hT1 : TbAt (hset h (t + 1) (.inr (most * 3, .inl (upd f (r * 3 + c) v)))) t most (upd f (r * 3 + c) v) sE nr := ⟨by simp [hset_ap, hT.1], by simp [hset_ap], by simp [hset_ap, hT.2.2]⟩
    refine T_findSame hT1 (by omega) h2 (by omega) (fun h' sE' hT' hE' hO' => ?_)
    refine go_ok okF1 (C := cdX8_change) (by rfl) [] 10 (by exact Nat.le_of_ble_eq_true rfl) ?_
    simp (maxSteps := 2000000) only [go, stp, inS, ↓reduceIte, Bool.false_eq_true, Nat.reduceLT, Nat.reduceEqDiff, Nat.reduceAdd, ldI, ldL, ldA, st1, st2, okS, List.getElem?_cons_zero, List.getElem?_cons_succ, List.length_cons, List.length_nil, List.set_cons_zero, List.set_cons_succ, callP, callF, popN, ct, Value.category, cI, List.getD_cons_zero, List.getD_cons_succ, and_self, and_true, true_and, Nat.zero_le, Nat.reduceLeDiff, Nat.add_zero, Nat.zero_add, List.nil_append, List.cons_append, Option.toList_some, Option.toList_none, List.append_nil, hset_ss, true_or, or_true, eq_self, beq_self_eq_true, List.drop_succ_cons, List.drop_zero, swT, swL, hset_ap, not_true_eq_false, not_false_eq_true, true_implies, false_implies, implies_true, Int32.reduceLE, Int32.reduceLT, Int32.reduceAdd, Int32.reduceSub, Int32.reduceOfInt, Int32.reduceToNatClampNeg, i10, i01, Nat.add_left_cancel_iff, Nat.left_eq_add, Nat.add_eq_left, cdX8_change, F1]
    refine hq1 r c rfl rfl hr hcc h' sE' hT' (fun q hqr => ?_) (fun k hk => ?_)
    · rw [hE' q hqr]
      by_cases hcc : r ≤ q
      · rw [if_pos hcc]
      · rw [if_neg hcc, hE q hqr]
        exact (smE_upd (nr := r) (by omega) (fun q hq => pk_un (by omega))).symm
    · rw [hO' k hk, hset_n _ _ (by omega)]
  · have : cS f nr row col = -1000 := if_neg hc
    rw [this]
    exact ⟨fun _ => hq0 hc, fun e => absurd rfl e⟩
-- how many of the first cells are nothing
def cN (f : Nat → Int32) : Nat → Nat
  | 0 => 0
  | i + 1 => cN f i + (if f i = -100 then 1 else 0)
theorem cN_le (f : Nat → Int32) : ∀ i, cN f i ≤ i
  | 0 => Nat.le_refl 0
  | i + 1 => by rw [cN]; have := cN_le f i; split <;> omega
theorem nI_ite (a : Nat) (P : Prop) [Decidable P] : nI a + (if P then 1 else 0) = nI (a + if P then 1 else 0) := by
  split
  · exact nI_1 a
  · exact Int32.add_zero _
set_option maxRecDepth 100000 in
set_option maxHeartbeats 400000 in
theorem T_nothings {n : Nat} {h : aH} {Q : aQ} {t most : Nat} {f sE : Nat → Int32} {nr : Nat} (hT : TbAt h t most f sE nr) (h1 : nr ≤ most) (h2 : most ≤ 12) (hq : Q (some (.int (nI (cN f (nr * 3))))) n h) : Ok 61 [.ref t] n h Q := by
  have c0 : ∀ r, r < nr → cS f nr (nI r) 0 = f (r * 3) := fun r hr => cS_in (c := 0) (by omega) hr (by omega)
  have c1 : ∀ r, r < nr → cS f nr (nI r) 1 = f (r * 3 + 1) := fun r hr => cS_in (c := 1) (by omega) hr (by omega)
  have c2 : ∀ r, r < nr → cS f nr (nI r) 2 = f (r * 3 + 2) := fun r hr => cS_in (c := 2) (by omega) hr (by omega)
  refine ok_of kMX8_nothings kCX8_nothings (Nat.le_of_ble_eq_true rfl) (fun z => ?_)
  change A z _ _ 0 0 _ 0 [some (.ref t), none, none, none] [] _
  refine go_ok okF1 (C := cdX8_nothings) (by rfl) [4] 20 (by exact Nat.le_of_ble_eq_true rfl) ?_
  simp (maxSteps := 2000000) only [go, stp, inS, ↓reduceIte, Bool.false_eq_true, Nat.reduceLT, Nat.reduceEqDiff, Nat.reduceAdd, ldI, ldL, ldA, st1, st2, okS, List.getElem?_cons_zero, List.getElem?_cons_succ, List.length_cons, List.length_nil, List.set_cons_zero, List.set_cons_succ, callP, callF, popN, ct, Value.category, cI, List.getD_cons_zero, List.getD_cons_succ, and_self, and_true, true_and, Nat.zero_le, Nat.reduceLeDiff, Nat.add_zero, Nat.zero_add, List.nil_append, List.cons_append, Option.toList_some, Option.toList_none, List.append_nil, hset_ss, true_or, or_true, eq_self, beq_self_eq_true, List.drop_succ_cons, List.drop_zero, swT, swL, hset_ap, not_true_eq_false, not_false_eq_true, true_implies, false_implies, implies_true, Int32.reduceLE, Int32.reduceLT, Int32.reduceAdd, Int32.reduceSub, Int32.reduceOfInt, Int32.reduceToNatClampNeg, i10, i01, Nat.add_left_cancel_iff, Nat.left_eq_add, Nat.add_eq_left, cdX8_nothings, F1, hT.1]
  have loop : ∀ m r (g3 : Option Value), nr - r = m → r ≤ nr → A z 61 n 0 0 h 4 [some (.ref t), some (.int (nI (cN f (r * 3)))), some (.int (nI r)), g3] [] Q := by
    intro m
    induction m with
    | zero =>
      intro r g3 hm hr
      have : r = nr := by omega
      subst this
      refine go_ok okF1 (C := cdX8_nothings) (by rfl) [4] 20 (by exact Nat.le_of_ble_eq_true rfl) ?_
      simp (maxSteps := 2000000) only [go, stp, inS, ↓reduceIte, Bool.false_eq_true, Nat.reduceLT, Nat.reduceEqDiff, Nat.reduceAdd, ldI, ldL, ldA, st1, st2, okS, List.getElem?_cons_zero, List.getElem?_cons_succ, List.length_cons, List.length_nil, List.set_cons_zero, List.set_cons_succ, callP, callF, popN, ct, Value.category, cI, List.getD_cons_zero, List.getD_cons_succ, and_self, and_true, true_and, Nat.zero_le, Nat.reduceLeDiff, Nat.add_zero, Nat.zero_add, List.nil_append, List.cons_append, Option.toList_some, Option.toList_none, List.append_nil, hset_ss, true_or, or_true, eq_self, beq_self_eq_true, List.drop_succ_cons, List.drop_zero, swT, swL, hset_ap, not_true_eq_false, not_false_eq_true, true_implies, false_implies, implies_true, Int32.reduceLE, Int32.reduceLT, Int32.reduceAdd, Int32.reduceSub, Int32.reduceOfInt, Int32.reduceToNatClampNeg, i10, i01, Nat.add_left_cancel_iff, Nat.left_eq_add, Nat.add_eq_left, cdX8_nothings, F1, hT.1]
      exact ⟨fun _ => hq, fun c => absurd ((i_le (by omega) (by omega)).mpr (Nat.le_refl _)) c⟩
    | succ m ih =>
      intro r g3 hm hr
      have hlt : r < nr := by omega
      refine go_ok okF1 (C := cdX8_nothings) (by rfl) [4] 20 (by exact Nat.le_of_ble_eq_true rfl) ?_
      simp (maxSteps := 2000000) only [go, stp, inS, ↓reduceIte, Bool.false_eq_true, Nat.reduceLT, Nat.reduceEqDiff, Nat.reduceAdd, ldI, ldL, ldA, st1, st2, okS, List.getElem?_cons_zero, List.getElem?_cons_succ, List.length_cons, List.length_nil, List.set_cons_zero, List.set_cons_succ, callP, callF, popN, ct, Value.category, cI, List.getD_cons_zero, List.getD_cons_succ, and_self, and_true, true_and, Nat.zero_le, Nat.reduceLeDiff, Nat.add_zero, Nat.zero_add, List.nil_append, List.cons_append, Option.toList_some, Option.toList_none, List.append_nil, hset_ss, true_or, or_true, eq_self, beq_self_eq_true, List.drop_succ_cons, List.drop_zero, swT, swL, hset_ap, not_true_eq_false, not_false_eq_true, true_implies, false_implies, implies_true, Int32.reduceLE, Int32.reduceLT, Int32.reduceAdd, Int32.reduceSub, Int32.reduceOfInt, Int32.reduceToNatClampNeg, i10, i01, Nat.add_left_cancel_iff, Nat.left_eq_add, Nat.add_eq_left, cdX8_nothings, F1, hT.1]
      refine ⟨fun c => absurd ((i_le (by omega) (by omega)).mp c) (by omega), fun _ => ?_⟩
      refine T_cell hT h1 h2 ?_
      rw [c0 r hlt]
      have e1 : nI (cN f (r * 3)) + (if f (r * 3) = -100 then 1 else 0) = nI (cN f (r * 3 + 1)) := nI_ite _ _
      have e2 : nI (cN f (r * 3 + 1)) + (if f (r * 3 + 1) = -100 then 1 else 0) = nI (cN f (r * 3 + 2)) := nI_ite _ _
      have e3 : nI (cN f (r * 3 + 2)) + (if f (r * 3 + 2) = -100 then 1 else 0) = nI (cN f (r * 3 + 3)) := nI_ite _ _
      have step3 : ∀ x : Int32, x = nI (cN f (r * 3 + 2)) → A z 61 n 0 0 h 14 [some (.ref t), some (.int x), some (.int (nI r)), some (.int 2)] [] Q := by
        intro x hx
        subst hx
        refine go_ok okF1 (C := cdX8_nothings) (by rfl) [4, 14] 20 (by exact Nat.le_of_ble_eq_true rfl) ?_
        simp (maxSteps := 2000000) only [go, stp, inS, ↓reduceIte, Bool.false_eq_true, Nat.reduceLT, Nat.reduceEqDiff, Nat.reduceAdd, ldI, ldL, ldA, st1, st2, okS, List.getElem?_cons_zero, List.getElem?_cons_succ, List.length_cons, List.length_nil, List.set_cons_zero, List.set_cons_succ, callP, callF, popN, ct, Value.category, cI, List.getD_cons_zero, List.getD_cons_succ, and_self, and_true, true_and, Nat.zero_le, Nat.reduceLeDiff, Nat.add_zero, Nat.zero_add, List.nil_append, List.cons_append, Option.toList_some, Option.toList_none, List.append_nil, hset_ss, true_or, or_true, eq_self, beq_self_eq_true, List.drop_succ_cons, List.drop_zero, swT, swL, hset_ap, not_true_eq_false, not_false_eq_true, true_implies, false_implies, implies_true, Int32.reduceLE, Int32.reduceLT, Int32.reduceAdd, Int32.reduceSub, Int32.reduceOfInt, Int32.reduceToNatClampNeg, i10, i01, Nat.add_left_cancel_iff, Nat.left_eq_add, Nat.add_eq_left, cdX8_nothings, F1, hT.1]
        refine T_cell hT h1 h2 ?_
        rw [c2 r hlt]
        refine go_ok okF1 (C := cdX8_nothings) (by rfl) [4] 20 (by exact Nat.le_of_ble_eq_true rfl) ?_
        simp (maxSteps := 2000000) only [go, stp, inS, ↓reduceIte, Bool.false_eq_true, Nat.reduceLT, Nat.reduceEqDiff, Nat.reduceAdd, ldI, ldL, ldA, st1, st2, okS, List.getElem?_cons_zero, List.getElem?_cons_succ, List.length_cons, List.length_nil, List.set_cons_zero, List.set_cons_succ, callP, callF, popN, ct, Value.category, cI, List.getD_cons_zero, List.getD_cons_succ, and_self, and_true, true_and, Nat.zero_le, Nat.reduceLeDiff, Nat.add_zero, Nat.zero_add, List.nil_append, List.cons_append, Option.toList_some, Option.toList_none, List.append_nil, hset_ss, true_or, or_true, eq_self, beq_self_eq_true, List.drop_succ_cons, List.drop_zero, swT, swL, hset_ap, not_true_eq_false, not_false_eq_true, true_implies, false_implies, implies_true, Int32.reduceLE, Int32.reduceLT, Int32.reduceAdd, Int32.reduceSub, Int32.reduceOfInt, Int32.reduceToNatClampNeg, i10, i01, Nat.add_left_cancel_iff, Nat.left_eq_add, Nat.add_eq_left, cdX8_nothings, F1, hT.1]
        rw [nI_1]
        have := ih (r + 1) (some (.int 3)) (by omega) (by omega)
        rw [show (r + 1) * 3 = r * 3 + 3 by omega, ← e3] at this
        refine ⟨fun c => ?_, fun c => ?_⟩
        · rw [if_neg c] at this; exact this
        · rw [if_pos c] at this; exact this
      have step2 : ∀ x : Int32, x = nI (cN f (r * 3 + 1)) → A z 61 n 0 0 h 14 [some (.ref t), some (.int x), some (.int (nI r)), some (.int 1)] [] Q := by
        intro x hx
        subst hx
        refine go_ok okF1 (C := cdX8_nothings) (by rfl) [4, 14] 20 (by exact Nat.le_of_ble_eq_true rfl) ?_
        simp (maxSteps := 2000000) only [go, stp, inS, ↓reduceIte, Bool.false_eq_true, Nat.reduceLT, Nat.reduceEqDiff, Nat.reduceAdd, ldI, ldL, ldA, st1, st2, okS, List.getElem?_cons_zero, List.getElem?_cons_succ, List.length_cons, List.length_nil, List.set_cons_zero, List.set_cons_succ, callP, callF, popN, ct, Value.category, cI, List.getD_cons_zero, List.getD_cons_succ, and_self, and_true, true_and, Nat.zero_le, Nat.reduceLeDiff, Nat.add_zero, Nat.zero_add, List.nil_append, List.cons_append, Option.toList_some, Option.toList_none, List.append_nil, hset_ss, true_or, or_true, eq_self, beq_self_eq_true, List.drop_succ_cons, List.drop_zero, swT, swL, hset_ap, not_true_eq_false, not_false_eq_true, true_implies, false_implies, implies_true, Int32.reduceLE, Int32.reduceLT, Int32.reduceAdd, Int32.reduceSub, Int32.reduceOfInt, Int32.reduceToNatClampNeg, i10, i01, Nat.add_left_cancel_iff, Nat.left_eq_add, Nat.add_eq_left, cdX8_nothings, F1, hT.1]
        refine T_cell hT h1 h2 ?_
        rw [c1 r hlt]
        refine go_ok okF1 (C := cdX8_nothings) (by rfl) [4, 14] 20 (by exact Nat.le_of_ble_eq_true rfl) ?_
        simp (maxSteps := 2000000) only [go, stp, inS, ↓reduceIte, Bool.false_eq_true, Nat.reduceLT, Nat.reduceEqDiff, Nat.reduceAdd, ldI, ldL, ldA, st1, st2, okS, List.getElem?_cons_zero, List.getElem?_cons_succ, List.length_cons, List.length_nil, List.set_cons_zero, List.set_cons_succ, callP, callF, popN, ct, Value.category, cI, List.getD_cons_zero, List.getD_cons_succ, and_self, and_true, true_and, Nat.zero_le, Nat.reduceLeDiff, Nat.add_zero, Nat.zero_add, List.nil_append, List.cons_append, Option.toList_some, Option.toList_none, List.append_nil, hset_ss, true_or, or_true, eq_self, beq_self_eq_true, List.drop_succ_cons, List.drop_zero, swT, swL, hset_ap, not_true_eq_false, not_false_eq_true, true_implies, false_implies, implies_true, Int32.reduceLE, Int32.reduceLT, Int32.reduceAdd, Int32.reduceSub, Int32.reduceOfInt, Int32.reduceToNatClampNeg, i10, i01, Nat.add_left_cancel_iff, Nat.left_eq_add, Nat.add_eq_left, cdX8_nothings, F1, hT.1]
        refine ⟨fun c => step3 _ ?_, fun c => step3 _ ?_⟩
        · rw [if_neg c] at e2; exact e2
        · rw [if_pos c] at e2; exact e2
      refine go_ok okF1 (C := cdX8_nothings) (by rfl) [4, 14] 20 (by exact Nat.le_of_ble_eq_true rfl) ?_
      simp (maxSteps := 2000000) only [go, stp, inS, ↓reduceIte, Bool.false_eq_true, Nat.reduceLT, Nat.reduceEqDiff, Nat.reduceAdd, ldI, ldL, ldA, st1, st2, okS, List.getElem?_cons_zero, List.getElem?_cons_succ, List.length_cons, List.length_nil, List.set_cons_zero, List.set_cons_succ, callP, callF, popN, ct, Value.category, cI, List.getD_cons_zero, List.getD_cons_succ, and_self, and_true, true_and, Nat.zero_le, Nat.reduceLeDiff, Nat.add_zero, Nat.zero_add, List.nil_append, List.cons_append, Option.toList_some, Option.toList_none, List.append_nil, hset_ss, true_or, or_true, eq_self, beq_self_eq_true, List.drop_succ_cons, List.drop_zero, swT, swL, hset_ap, not_true_eq_false, not_false_eq_true, true_implies, false_implies, implies_true, Int32.reduceLE, Int32.reduceLT, Int32.reduceAdd, Int32.reduceSub, Int32.reduceOfInt, Int32.reduceToNatClampNeg, i10, i01, Nat.add_left_cancel_iff, Nat.left_eq_add, Nat.add_eq_left, cdX8_nothings, F1, hT.1]
      refine ⟨fun c => step2 _ ?_, fun c => step2 _ ?_⟩
      · rw [if_neg c] at e1; exact e1
      · rw [if_pos c] at e1; exact e1
  exact loop nr 0 none (by omega) (Nat.zero_le _)
-- rows of a mask that are the same as an earlier one of it
set_option maxRecDepth 100000 in
set_option maxHeartbeats 400000 in
theorem T_repeated {n : Nat} {h : aH} {Q : aQ} {t most : Nat} {f sE : Nat → Int32} {nr : Nat} {s : Int32} (hT : TbAt h t most f sE nr) (h1 : nr ≤ most) (h2 : most ≤ 12)
    (hq : Q (some (.int (mB nr (fun r => bt s r && !((sE r &&& s) == 0))))) n h) : Ok 64 [.ref t, .int s] n h Q := by
  refine ok_of kMX8_repeated kCX8_repeated (Nat.le_of_ble_eq_true rfl) (fun z => ?_)
  change A z _ _ 0 0 _ 0 [some (.ref t), some (.int s), none, none] [] _
  refine go_ok okF1 (C := cdX8_repeated) (by rfl) [4] 20 (by exact Nat.le_of_ble_eq_true rfl) ?_
  simp (maxSteps := 2000000) only [go, stp, inS, ↓reduceIte, Bool.false_eq_true, Nat.reduceLT, Nat.reduceEqDiff, Nat.reduceAdd, ldI, ldL, ldA, st1, st2, okS, List.getElem?_cons_zero, List.getElem?_cons_succ, List.length_cons, List.length_nil, List.set_cons_zero, List.set_cons_succ, callP, callF, popN, ct, Value.category, cI, List.getD_cons_zero, List.getD_cons_succ, and_self, and_true, true_and, Nat.zero_le, Nat.reduceLeDiff, Nat.add_zero, Nat.zero_add, List.nil_append, List.cons_append, Option.toList_some, Option.toList_none, List.append_nil, hset_ss, true_or, or_true, eq_self, beq_self_eq_true, List.drop_succ_cons, List.drop_zero, swT, swL, hset_ap, not_true_eq_false, not_false_eq_true, true_implies, false_implies, implies_true, Int32.reduceLE, Int32.reduceLT, Int32.reduceAdd, Int32.reduceSub, Int32.reduceOfInt, Int32.reduceToNatClampNeg, i10, i01, Nat.add_left_cancel_iff, Nat.left_eq_add, Nat.add_eq_left, cdX8_repeated, F1, hT.1]
  have loop : ∀ m r, nr - r = m → r ≤ nr → A z 64 n 0 0 h 4 [some (.ref t), some (.int s), some (.int (mB r (fun r => bt s r && !((sE r &&& s) == 0)))), some (.int (nI r))] [] Q := by
    intro m
    induction m with
    | zero =>
      intro r hm hr
      have : r = nr := by omega
      subst this
      refine go_ok okF1 (C := cdX8_repeated) (by rfl) [4] 40 (by exact Nat.le_of_ble_eq_true rfl) ?_
      simp (maxSteps := 2000000) only [go, stp, inS, ↓reduceIte, Bool.false_eq_true, Nat.reduceLT, Nat.reduceEqDiff, Nat.reduceAdd, ldI, ldL, ldA, st1, st2, okS, List.getElem?_cons_zero, List.getElem?_cons_succ, List.length_cons, List.length_nil, List.set_cons_zero, List.set_cons_succ, callP, callF, popN, ct, Value.category, cI, List.getD_cons_zero, List.getD_cons_succ, and_self, and_true, true_and, Nat.zero_le, Nat.reduceLeDiff, Nat.add_zero, Nat.zero_add, List.nil_append, List.cons_append, Option.toList_some, Option.toList_none, List.append_nil, hset_ss, true_or, or_true, eq_self, beq_self_eq_true, List.drop_succ_cons, List.drop_zero, swT, swL, hset_ap, not_true_eq_false, not_false_eq_true, true_implies, false_implies, implies_true, Int32.reduceLE, Int32.reduceLT, Int32.reduceAdd, Int32.reduceSub, Int32.reduceOfInt, Int32.reduceToNatClampNeg, i10, i01, Nat.add_left_cancel_iff, Nat.left_eq_add, Nat.add_eq_left, cdX8_repeated, F1, hT.1, hT.2.2]
      exact ⟨fun _ => hq, fun c => absurd ((i_le (by omega) (by omega)).mpr (Nat.le_refl _)) c⟩
    | succ m ih =>
      intro r hm hr
      have hlt : r < nr := by omega
      have h3 := ih (r + 1) (by omega) (by omega)
      rw [mB] at h3
      refine go_ok okF1 (C := cdX8_repeated) (by rfl) [4] 40 (by exact Nat.le_of_ble_eq_true rfl) ?_
      simp (maxSteps := 2000000) only [go, stp, inS, ↓reduceIte, Bool.false_eq_true, Nat.reduceLT, Nat.reduceEqDiff, Nat.reduceAdd, ldI, ldL, ldA, st1, st2, okS, List.getElem?_cons_zero, List.getElem?_cons_succ, List.length_cons, List.length_nil, List.set_cons_zero, List.set_cons_succ, callP, callF, popN, ct, Value.category, cI, List.getD_cons_zero, List.getD_cons_succ, and_self, and_true, true_and, Nat.zero_le, Nat.reduceLeDiff, Nat.add_zero, Nat.zero_add, List.nil_append, List.cons_append, Option.toList_some, Option.toList_none, List.append_nil, hset_ss, true_or, or_true, eq_self, beq_self_eq_true, List.drop_succ_cons, List.drop_zero, swT, swL, hset_ap, not_true_eq_false, not_false_eq_true, true_implies, false_implies, implies_true, Int32.reduceLE, Int32.reduceLT, Int32.reduceAdd, Int32.reduceSub, Int32.reduceOfInt, Int32.reduceToNatClampNeg, i10, i01, Nat.add_left_cancel_iff, Nat.left_eq_add, Nat.add_eq_left, cdX8_repeated, F1, hT.1, hT.2.2]
      rw [b_ask0 s (show r < 32 by omega), nI_1, i_cl (by omega)]
      refine ⟨fun c => absurd ((i_le (by omega) (by omega)).mp c) (by omega), fun _ => ⟨fun c => absurd ((i_le (by omega) (by omega)).mp c) (by omega), fun _ => ⟨fun c => ?_, fun _ => ⟨fun c => ?_, fun c => ⟨vp_in_nI (by omega) (by omega), fun c2 => ?_, fun c2 => ?_⟩⟩⟩⟩⟩
      · have he : mB nr (fun r => bt s r && !((sE r &&& s) == 0)) = mB r (fun r => bt s r && !((sE r &&& s) == 0)) := by
          refine b_ext fun i hi => ?_
          rw [b_mB _ nr (by omega) i hi, b_mB _ r (by omega) i hi]
          by_cases hir : r ≤ i
          · rw [b_rest s (by omega) c hir]; simp
          · rw [show decide (i < nr) = true from decide_eq_true (by omega), show decide (i < r) = true from decide_eq_true (by omega)]
        rw [he] at hq
        exact hq
      · rw [c] at h3
        simpa using h3
      · rw [c2] at h3
        simpa using h3
      · have c3 : bt s r = true := by simpa using c
        rw [c3] at h3
        simpa [c2] using h3
  exact loop nr 0 (by omega) (Nat.zero_le _)
-- the sum of what is told in a column, in the rows of a mask
def toF (f : Nat → Int32) (s : Int32) (c : Nat) : Nat → Int32
  | 0 => 0
  | r + 1 => toF f s c r + (if bt s r = true ∧ -9 ≤ f (r * 3 + c) ∧ f (r * 3 + c) ≤ 9 then f (r * 3 + c) else 0)
theorem toF_rest {f : Nat → Int32} {s : Int32} {c r : Nat} (h : ∀ i, r ≤ i → bt s i = false) : ∀ m, toF f s c (r + m) = toF f s c r
  | 0 => rfl
  | m + 1 => by rw [← Nat.add_assoc, toF, toF_rest h m, h (r + m) (by omega)]; simp
set_option maxRecDepth 100000 in
set_option maxHeartbeats 400000 in
theorem T_total {n : Nat} {h : aH} {Q : aQ} {t most : Nat} {f sE : Nat → Int32} {nr c : Nat} {s : Int32} (hT : TbAt h t most f sE nr) (h1 : nr ≤ most) (h2 : most ≤ 12) (hc : c < 3)
    (hq : Q (some (.int (toF f s c nr))) n h) : Ok 65 [.ref t, .int s, .int (nI c)] n h Q := by
  refine ok_of kMX8_total kCX8_total (Nat.le_of_ble_eq_true rfl) (fun z => ?_)
  change A z _ _ 0 0 _ 0 [some (.ref t), some (.int s), some (.int (nI c)), none, none, none] [] _
  refine go_ok okF1 (C := cdX8_total) (by rfl) [5] 20 (by exact Nat.le_of_ble_eq_true rfl) ?_
  simp (maxSteps := 2000000) only [go, stp, inS, ↓reduceIte, Bool.false_eq_true, Nat.reduceLT, Nat.reduceEqDiff, Nat.reduceAdd, ldI, ldL, ldA, st1, st2, okS, List.getElem?_cons_zero, List.getElem?_cons_succ, List.length_cons, List.length_nil, List.set_cons_zero, List.set_cons_succ, callP, callF, popN, ct, Value.category, cI, List.getD_cons_zero, List.getD_cons_succ, and_self, and_true, true_and, Nat.zero_le, Nat.reduceLeDiff, Nat.add_zero, Nat.zero_add, List.nil_append, List.cons_append, Option.toList_some, Option.toList_none, List.append_nil, hset_ss, true_or, or_true, eq_self, beq_self_eq_true, List.drop_succ_cons, List.drop_zero, swT, swL, hset_ap, not_true_eq_false, not_false_eq_true, true_implies, false_implies, implies_true, Int32.reduceLE, Int32.reduceLT, Int32.reduceAdd, Int32.reduceSub, Int32.reduceOfInt, Int32.reduceToNatClampNeg, i10, i01, Nat.add_left_cancel_iff, Nat.left_eq_add, Nat.add_eq_left, cdX8_total, F1, hT.1]
  have loop : ∀ m r (g : Option Value), nr - r = m → r ≤ nr → A z 65 n 0 0 h 5 [some (.ref t), some (.int s), some (.int (nI c)), some (.int (toF f s c r)), some (.int (nI r)), g] [] Q := by
    intro m
    induction m with
    | zero =>
      intro r g hm hr
      have : r = nr := by omega
      subst this
      refine go_ok okF1 (C := cdX8_total) (by rfl) [5] 40 (by exact Nat.le_of_ble_eq_true rfl) ?_
      simp (maxSteps := 2000000) only [go, stp, inS, ↓reduceIte, Bool.false_eq_true, Nat.reduceLT, Nat.reduceEqDiff, Nat.reduceAdd, ldI, ldL, ldA, st1, st2, okS, List.getElem?_cons_zero, List.getElem?_cons_succ, List.length_cons, List.length_nil, List.set_cons_zero, List.set_cons_succ, callP, callF, popN, ct, Value.category, cI, List.getD_cons_zero, List.getD_cons_succ, and_self, and_true, true_and, Nat.zero_le, Nat.reduceLeDiff, Nat.add_zero, Nat.zero_add, List.nil_append, List.cons_append, Option.toList_some, Option.toList_none, List.append_nil, hset_ss, true_or, or_true, eq_self, beq_self_eq_true, List.drop_succ_cons, List.drop_zero, swT, swL, hset_ap, not_true_eq_false, not_false_eq_true, true_implies, false_implies, implies_true, Int32.reduceLE, Int32.reduceLT, Int32.reduceAdd, Int32.reduceSub, Int32.reduceOfInt, Int32.reduceToNatClampNeg, i10, i01, Nat.add_left_cancel_iff, Nat.left_eq_add, Nat.add_eq_left, cdX8_total, F1, hT.1, hT.2.2]
      exact ⟨fun _ => hq, fun c => absurd ((i_le (by omega) (by omega)).mpr (Nat.le_refl _)) c⟩
    | succ m ih =>
      intro r g hm hr
      have hlt : r < nr := by omega
      have h3 := ih (r + 1) (some (.int (f (r * 3 + c)))) (by omega) (by omega)
      rw [toF] at h3
      refine go_ok okF1 (C := cdX8_total) (by rfl) [5] 40 (by exact Nat.le_of_ble_eq_true rfl) ?_
      simp (maxSteps := 2000000) only [go, stp, inS, ↓reduceIte, Bool.false_eq_true, Nat.reduceLT, Nat.reduceEqDiff, Nat.reduceAdd, ldI, ldL, ldA, st1, st2, okS, List.getElem?_cons_zero, List.getElem?_cons_succ, List.length_cons, List.length_nil, List.set_cons_zero, List.set_cons_succ, callP, callF, popN, ct, Value.category, cI, List.getD_cons_zero, List.getD_cons_succ, and_self, and_true, true_and, Nat.zero_le, Nat.reduceLeDiff, Nat.add_zero, Nat.zero_add, List.nil_append, List.cons_append, Option.toList_some, Option.toList_none, List.append_nil, hset_ss, true_or, or_true, eq_self, beq_self_eq_true, List.drop_succ_cons, List.drop_zero, swT, swL, hset_ap, not_true_eq_false, not_false_eq_true, true_implies, false_implies, implies_true, Int32.reduceLE, Int32.reduceLT, Int32.reduceAdd, Int32.reduceSub, Int32.reduceOfInt, Int32.reduceToNatClampNeg, i10, i01, Nat.add_left_cancel_iff, Nat.left_eq_add, Nat.add_eq_left, cdX8_total, F1, hT.1, hT.2.2]
      refine ⟨fun c => absurd ((i_le (by omega) (by omega)).mp c) (by omega), fun _ => ⟨fun c0 => ?_, fun _ => ?_⟩⟩
      · have := toF_rest (f := f) (c := c) (fun i hi => b_rest s (show r < 32 by omega) c0 hi) (nr - r)
        rw [show r + (nr - r) = nr by omega] at this
        rw [← this]; exact hq
      · refine T_cell hT h1 h2 ?_
        rw [cS_in (by omega) hlt hc]
        refine go_ok okF1 (C := cdX8_total) (by rfl) [5] 40 (by exact Nat.le_of_ble_eq_true rfl) ?_
        simp (maxSteps := 2000000) only [go, stp, inS, ↓reduceIte, Bool.false_eq_true, Nat.reduceLT, Nat.reduceEqDiff, Nat.reduceAdd, ldI, ldL, ldA, st1, st2, okS, List.getElem?_cons_zero, List.getElem?_cons_succ, List.length_cons, List.length_nil, List.set_cons_zero, List.set_cons_succ, callP, callF, popN, ct, Value.category, cI, List.getD_cons_zero, List.getD_cons_succ, and_self, and_true, true_and, Nat.zero_le, Nat.reduceLeDiff, Nat.add_zero, Nat.zero_add, List.nil_append, List.cons_append, Option.toList_some, Option.toList_none, List.append_nil, hset_ss, true_or, or_true, eq_self, beq_self_eq_true, List.drop_succ_cons, List.drop_zero, swT, swL, hset_ap, not_true_eq_false, not_false_eq_true, true_implies, false_implies, implies_true, Int32.reduceLE, Int32.reduceLT, Int32.reduceAdd, Int32.reduceSub, Int32.reduceOfInt, Int32.reduceToNatClampNeg, i10, i01, Nat.add_left_cancel_iff, Nat.left_eq_add, Nat.add_eq_left, cdX8_total, F1, hT.1, hT.2.2, ib0]
        rw [b_ask0 s (show r < 32 by omega), nI_1]
        refine ⟨fun c1 => ?_, fun c1 => ⟨fun c2 => ?_, fun c2 => ?_⟩⟩
        · rw [if_neg (by simp [c1]), Int32.add_zero] at h3; exact h3
        · rw [if_neg (fun q => c2 q.2), Int32.add_zero] at h3; exact h3
        · rw [if_pos ⟨by simpa using c1, Classical.not_not.mp c2⟩] at h3; exact h3
  exact loop nr 0 none (by omega) (Nat.zero_le _)
