
section E4
variable {n : Nat} {h : aH} {Q : aQ} {t tb x most : Nat} {dn fi : Int32} {W f sE G S L R : Nat → Int32} {nr ac k : Nat}
theorem gK {G : Nat → Int32} {ac k : Nat} {e : Int32} (hk : k < ac) (ha : ac ≤ 40) : (if 0 ≤ nI k ∧ nI k < nI ac ∧ nI k < 40 then G (nI k).toNatClampNeg else e) = G k := by
  rw [if_pos ⟨nI_pos' (by omega), (i_lt (by omega) (by omega)).mpr hk, (i_lt (b := 40) (by omega) (by omega)).mpr (by omega)⟩, i_cl (by omega)]
theorem cm3 {g : Int32} (h : isCm g) (h1 : ¬ g = 60) (h2 : ¬ g = 61) : g = 62 := by
  rcases h with h | h | h
  · exact absurd h h1
  · exact absurd h h2
  · exact h
set_option maxRecDepth 100000 in
set_option maxHeartbeats 400000 in
theorem E_compared (hE : EnAt h t tb (alm nr) dn fi W) (hT : TbAt h tb most f sE nr) (h1 : nr ≤ most) (h2 : most ≤ 12) (hX : TxW h x G S L R ac) (hx : txOk G S L R ac) (hd1 : t + 3 ≤ tb ∨ tb + 3 ≤ t) (hd2 : t + 3 ≤ x ∨ x + 6 ≤ t) (hk : k < ac) (hc : isCm (G k))
    (hq : ∀ h' fi', EnAt h' t tb (alm nr) dn fi' W → firQ fi fi' (fun i => ∃ r, r < nr ∧ FC i (G k) (L k) (R k) (tv f r (L k)) (tv f r (R k))) → sOff h h' t (t + 3) → Q (some (.int (enc nr (fun r => vC (bt dn) (G k) (L k) (R k) (tv f r (L k)) (tv f r (R k)))))) n h') : Ok 15 [.ref t, .ref x, .int (nI k)] n h Q := by
  obtain ⟨B, len, ot, om, mi, sk, hX0⟩ := hX
  obtain ⟨x1, x2, x3, x4⟩ := hx
  obtain ⟨hE0, ⟨a, b, c, d, e, hS⟩, hW⟩ := hE
  obtain ⟨tL, tR⟩ := x4 k hk hc
  have hnr : nr ≤ 16 := by omega
  refine ok_of kMX1_compared kCX1_compared (Nat.le_of_ble_eq_true rfl) (fun z => ?_)
  change A z _ _ 0 0 _ 0 [some (.ref t), some (.ref x), some (.int (nI k)), none, none, none] [] _
  refine go_ok okF1 (C := cdX1_compared) (by rfl) [] 30 (by exact Nat.le_of_ble_eq_true rfl) ?_
  simp (maxSteps := 2000000) only [go, stp, inS, ↓reduceIte, Bool.false_eq_true, Nat.reduceLT, Nat.reduceEqDiff, Nat.reduceAdd, ldI, ldL, ldA, st1, st2, okS, List.getElem?_cons_zero, List.getElem?_cons_succ, List.length_cons, List.length_nil, List.set_cons_zero, List.set_cons_succ, callP, callF, popN, ct, Value.category, cI, List.getD_cons_zero, List.getD_cons_succ, and_self, and_true, true_and, Nat.zero_le, Nat.reduceLeDiff, Nat.add_zero, Nat.zero_add, List.nil_append, List.cons_append, Option.toList_some, Option.toList_none, List.append_nil, hset_ss, true_or, or_true, eq_self, beq_self_eq_true, List.drop_succ_cons, List.drop_zero, swT, swL, hset_ap, not_true_eq_false, not_false_eq_true, true_implies, false_implies, implies_true, Int32.reduceLE, Int32.reduceLT, Int32.reduceAdd, Int32.reduceSub, Int32.reduceOfInt, Int32.reduceToNatClampNeg, i10, i01, Nat.add_left_cancel_iff, Nat.left_eq_add, Nat.add_eq_left, cdX1_compared, F1, hX0.1]
  refine X_leftAt hX0 ?_
  rw [gK hk x1]
  refine go_ok okF1 (C := cdX1_compared) (by rfl) [] 30 (by exact Nat.le_of_ble_eq_true rfl) ?_
  simp (maxSteps := 2000000) only [go, stp, inS, ↓reduceIte, Bool.false_eq_true, Nat.reduceLT, Nat.reduceEqDiff, Nat.reduceAdd, ldI, ldL, ldA, st1, st2, okS, List.getElem?_cons_zero, List.getElem?_cons_succ, List.length_cons, List.length_nil, List.set_cons_zero, List.set_cons_succ, callP, callF, popN, ct, Value.category, cI, List.getD_cons_zero, List.getD_cons_succ, and_self, and_true, true_and, Nat.zero_le, Nat.reduceLeDiff, Nat.add_zero, Nat.zero_add, List.nil_append, List.cons_append, Option.toList_some, Option.toList_none, List.append_nil, hset_ss, true_or, or_true, eq_self, beq_self_eq_true, List.drop_succ_cons, List.drop_zero, swT, swL, hset_ap, not_true_eq_false, not_false_eq_true, true_implies, false_implies, implies_true, Int32.reduceLE, Int32.reduceLT, Int32.reduceAdd, Int32.reduceSub, Int32.reduceOfInt, Int32.reduceToNatClampNeg, i10, i01, Nat.add_left_cancel_iff, Nat.left_eq_add, Nat.add_eq_left, cdX1_compared, F1, hX0.1]
  refine X_rightAt hX0 ?_
  rw [gK hk x1]
  refine go_ok okF1 (C := cdX1_compared) (by rfl) [] 30 (by exact Nat.le_of_ble_eq_true rfl) ?_
  simp (maxSteps := 2000000) only [go, stp, inS, ↓reduceIte, Bool.false_eq_true, Nat.reduceLT, Nat.reduceEqDiff, Nat.reduceAdd, ldI, ldL, ldA, st1, st2, okS, List.getElem?_cons_zero, List.getElem?_cons_succ, List.length_cons, List.length_nil, List.set_cons_zero, List.set_cons_succ, callP, callF, popN, ct, Value.category, cI, List.getD_cons_zero, List.getD_cons_succ, and_self, and_true, true_and, Nat.zero_le, Nat.reduceLeDiff, Nat.add_zero, Nat.zero_add, List.nil_append, List.cons_append, Option.toList_some, Option.toList_none, List.append_nil, hset_ss, true_or, or_true, eq_self, beq_self_eq_true, List.drop_succ_cons, List.drop_zero, swT, swL, hset_ap, not_true_eq_false, not_false_eq_true, true_implies, false_implies, implies_true, Int32.reduceLE, Int32.reduceLT, Int32.reduceAdd, Int32.reduceSub, Int32.reduceOfInt, Int32.reduceToNatClampNeg, i10, i01, Nat.add_left_cancel_iff, Nat.left_eq_add, Nat.add_eq_left, cdX1_compared, F1, (show h t = _ from hE0), (show h (t + 1) = _ from hS)]
  refine D_weigh hS hT h1 h2 (by omega) tL tR (fun h1' hS1 hO1 => ?_)
  have hE1 : EnO h1' t tb (alm nr) dn fi := by unfold EnO; rw [hO1 t (by omega)]; exact hE0
  have hX1 := hX0.kept (h' := h1') (fun q _ _ => hO1 q (by omega))
  have hO1' : sOff h h1' t (t + 3) := fun q hq => hO1 q (by omega)
  have hW1 : h1' (t + 2) = some (.inr (40, .inl W)) := by rw [hO1 _ (by omega)]; exact hW
  -- the bits of the sides
  have bl : ∀ (P : Nat → Bool) {i : Nat}, i < 32 → bt (mB nr P) i = (decide (i < nr) && P i) := fun P i hi => b_mB P nr (by omega) i hi
  have fin : ∀ (h' : aH) fi', EnO h' t tb (alm nr) dn fi' → sOff h1' h' t (t + 1) → EnAt h' t tb (alm nr) dn fi' W ∧ sOff h h' t (t + 3) := fun h' fi' hE' hO' =>
    ⟨⟨hE', ⟨_, _, _, _, _, by unfold SdAt; rw [hO' (t + 1) (by omega)]; exact hS1⟩, by rw [hO' _ (by omega)]; exact hW1⟩, hO1'.tr (fun q hq => hO' q (by omega))⟩
  have nz : ∀ (P : Nat → Bool), (¬ mB nr P = 0) ↔ ∃ r, r < nr ∧ P r = true := fun P => mB_nz (P := fun r => P r = true) hnr (fun i hi => by rw [bl P hi]; by_cases q : i < nr <;> simp [q])
  refine go_ok okF1 (C := cdX1_compared) (by rfl) [] 30 (by exact Nat.le_of_ble_eq_true rfl) ?_
  simp (maxSteps := 2000000) only [go, stp, inS, ↓reduceIte, Bool.false_eq_true, Nat.reduceLT, Nat.reduceEqDiff, Nat.reduceAdd, ldI, ldL, ldA, st1, st2, okS, List.getElem?_cons_zero, List.getElem?_cons_succ, List.length_cons, List.length_nil, List.set_cons_zero, List.set_cons_succ, callP, callF, popN, ct, Value.category, cI, List.getD_cons_zero, List.getD_cons_succ, and_self, and_true, true_and, Nat.zero_le, Nat.reduceLeDiff, Nat.add_zero, Nat.zero_add, List.nil_append, List.cons_append, Option.toList_some, Option.toList_none, List.append_nil, hset_ss, true_or, or_true, eq_self, beq_self_eq_true, List.drop_succ_cons, List.drop_zero, swT, swL, hset_ap, not_true_eq_false, not_false_eq_true, true_implies, false_implies, implies_true, Int32.reduceLE, Int32.reduceLT, Int32.reduceAdd, Int32.reduceSub, Int32.reduceOfInt, Int32.reduceToNatClampNeg, i10, i01, Nat.add_left_cancel_iff, Nat.left_eq_add, Nat.add_eq_left, cdX1_compared, F1, hX1.1]
  refine X_signAt hX1 ?_
  rw [gK hk x1]
  refine go_ok okF1 (C := cdX1_compared) (by rfl) [61] 60 (by exact Nat.le_of_ble_eq_true rfl) ?_
  simp (maxSteps := 2000000) only [go, stp, inS, ↓reduceIte, Bool.false_eq_true, Nat.reduceLT, Nat.reduceEqDiff, Nat.reduceAdd, ldI, ldL, ldA, st1, st2, okS, List.getElem?_cons_zero, List.getElem?_cons_succ, List.length_cons, List.length_nil, List.set_cons_zero, List.set_cons_succ, callP, callF, popN, ct, Value.category, cI, List.getD_cons_zero, List.getD_cons_succ, and_self, and_true, true_and, Nat.zero_le, Nat.reduceLeDiff, Nat.add_zero, Nat.zero_add, List.nil_append, List.cons_append, Option.toList_some, Option.toList_none, List.append_nil, hset_ss, true_or, or_true, eq_self, beq_self_eq_true, List.drop_succ_cons, List.drop_zero, swT, swL, hset_ap, not_true_eq_false, not_false_eq_true, true_implies, false_implies, implies_true, Int32.reduceLE, Int32.reduceLT, Int32.reduceAdd, Int32.reduceSub, Int32.reduceOfInt, Int32.reduceToNatClampNeg, i10, i01, Nat.add_left_cancel_iff, Nat.left_eq_add, Nat.add_eq_left, cdX1_compared, F1, (show h1' t = _ from hE1), (show h1' (t + 1) = _ from hS1), ib0, hX1.1]
  refine ⟨fun c1 => ?_, fun c1 => ⟨fun c2 => ?_, fun c2 => ?_⟩⟩
  · -- not <
    refine X_signAt hX1 ?_
    rw [gK hk x1]
    refine go_ok okF1 (C := cdX1_compared) (by rfl) [134] 60 (by exact Nat.le_of_ble_eq_true rfl) ?_
    simp (maxSteps := 2000000) only [go, stp, inS, ↓reduceIte, Bool.false_eq_true, Nat.reduceLT, Nat.reduceEqDiff, Nat.reduceAdd, ldI, ldL, ldA, st1, st2, okS, List.getElem?_cons_zero, List.getElem?_cons_succ, List.length_cons, List.length_nil, List.set_cons_zero, List.set_cons_succ, callP, callF, popN, ct, Value.category, cI, List.getD_cons_zero, List.getD_cons_succ, and_self, and_true, true_and, Nat.zero_le, Nat.reduceLeDiff, Nat.add_zero, Nat.zero_add, List.nil_append, List.cons_append, Option.toList_some, Option.toList_none, List.append_nil, hset_ss, true_or, or_true, eq_self, beq_self_eq_true, List.drop_succ_cons, List.drop_zero, swT, swL, hset_ap, not_true_eq_false, not_false_eq_true, true_implies, false_implies, implies_true, Int32.reduceLE, Int32.reduceLT, Int32.reduceAdd, Int32.reduceSub, Int32.reduceOfInt, Int32.reduceToNatClampNeg, i10, i01, Nat.add_left_cancel_iff, Nat.left_eq_add, Nat.add_eq_left, cdX1_compared, F1, (show h1' t = _ from hE1), (show h1' (t + 1) = _ from hS1), ib0, hX1.1]
    refine ⟨fun c2 => ?_, fun c2 => ?_⟩
    · -- >
      have g62 : G k = 62 := cm3 hc c1 c2
      have tail : ∀ (h' : aH) fi' (odd : Int32), EnO h' t tb (alm nr) dn fi' → sOff h1' h' t (t + 1) → firQ fi fi' (fun i => ∃ r, r < nr ∧ FC i (G k) (L k) (R k) (tv f r (L k)) (tv f r (R k))) → (∀ i, i < 32 → bt odd i = (decide (i < nr) && (coB (L k) && toB (R k) && bt dn 6 && decide (¬ tv f i (L k) = -100 ∧ ¬ tv f i (R k) = -100 ∧ tv f i (L k) < tv f i (R k))))) →
          A z 15 n 0 0 h' 166 [some (.ref t), some (.ref x), some (.int (nI k)), some (.int (L k)), some (.int (R k)), none] [.int odd] Q := by
        intro h' fi' odd hE' hO' hf ho
        obtain ⟨hEA, hOA⟩ := fin h' fi' hE' hO'
        have hS2 := (show h1' (t + 1) = _ from hS1)
        rw [← hO' (t + 1) (by omega)] at hS2
        refine go_ok okF1 (C := cdX1_compared) (by rfl) [] 60 (by exact Nat.le_of_ble_eq_true rfl) ?_
        simp (maxSteps := 2000000) only [go, stp, inS, ↓reduceIte, Bool.false_eq_true, Nat.reduceLT, Nat.reduceEqDiff, Nat.reduceAdd, ldI, ldL, ldA, st1, st2, okS, List.getElem?_cons_zero, List.getElem?_cons_succ, List.length_cons, List.length_nil, List.set_cons_zero, List.set_cons_succ, callP, callF, popN, ct, Value.category, cI, List.getD_cons_zero, List.getD_cons_succ, and_self, and_true, true_and, Nat.zero_le, Nat.reduceLeDiff, Nat.add_zero, Nat.zero_add, List.nil_append, List.cons_append, Option.toList_some, Option.toList_none, List.append_nil, hset_ss, true_or, or_true, eq_self, beq_self_eq_true, List.drop_succ_cons, List.drop_zero, swT, swL, hset_ap, not_true_eq_false, not_false_eq_true, true_implies, false_implies, implies_true, Int32.reduceLE, Int32.reduceLT, Int32.reduceAdd, Int32.reduceSub, Int32.reduceOfInt, Int32.reduceToNatClampNeg, i10, i01, Nat.add_left_cancel_iff, Nat.left_eq_add, Nat.add_eq_left, cdX1_compared, F1, (show h' t = _ from hE'), hS2]
        have := hq h' fi' hEA hf hOA
        rw [← enc_of (V := fun r => vC (bt dn) (G k) (L k) (R k) (tv f r (L k)) (tv f r (R k))) ?_ ?_ hnr] at this
        exact this
        · intro i hi
          rw [bl _ hi]
          by_cases hr : i < nr
          · unfold vC
            by_cases q1 : tv f i (L k) = -100 ∨ tv f i (R k) = -100
            · rw [if_pos q1, if_neg (by simp [g62])]
              rcases q1 with q1 | q1 <;> simp [hr, q1]
            · rw [if_neg q1, if_neg c1, if_neg c2]
              have q2 : ¬ tv f i (L k) = -100 := fun w => q1 (Or.inl w)
              have q3 : ¬ tv f i (R k) = -100 := fun w => q1 (Or.inr w)
              by_cases q4 : tv f i (R k) < tv f i (L k)
              · simp [hr, q2, q3, q4]
              · rw [if_neg q4]
                simp only [hr, q2, q3, q4]
                split <;> simp
          · simp [hr]
        · intro i hi
          rw [b_or, bl _ (by omega), ho i (by omega)]
          by_cases hr : i < nr
          · unfold vC
            by_cases q1 : tv f i (L k) = -100 ∨ tv f i (R k) = -100
            · rw [if_pos q1, if_neg (by simp [g62])]
              simp [hr, q1]
            · rw [if_neg q1, if_neg c1, if_neg c2]
              have q2 : ¬ tv f i (L k) = -100 := fun w => q1 (Or.inl w)
              have q3 : ¬ tv f i (R k) = -100 := fun w => q1 (Or.inr w)
              by_cases q4 : tv f i (R k) < tv f i (L k)
              · have q5 : ¬ tv f i (L k) < tv f i (R k) := fun w => by rw [Int32.lt_iff_toInt_lt] at w q4; omega
                simp [hr, q2, q3, q4, q5]
              · rw [if_neg q4]
                by_cases q5 : tv f i (L k) < tv f i (R k)
                · cases coB (L k) <;> cases toB (R k) <;> cases bt dn 6 <;> simp [hr, q2, q3, q5]
                · simp [hr, q2, q3, q5]
          · simp [hr]
      have no : ¬ (coB (L k) = true ∧ toB (R k) = true) → A z 15 n 0 0 h1' 166 [some (.ref t), some (.ref x), some (.int (nI k)), some (.int (L k)), some (.int (R k)), none] [.int 0] Q := fun hno => by
        refine tail h1' fi 0 hE1 sOff.rf (fun i hi => ?_) (fun i hi => ?_)
        · constructor
          · exact fun w => Or.inl w
          · rintro (w | ⟨r, hr, w⟩)
            · exact w
            · unfold FC at w
              rcases w with ⟨-, w, -⟩ | ⟨-, w, -⟩ | ⟨-, -, -, -, -, w1, w2⟩
              · exact absurd w c2
              · exact absurd w c1
              · exact absurd ⟨w1, w2⟩ hno
        · rw [b_0]
          revert hno
          cases coB (L k) <;> cases toB (R k) <;> simp
      refine go_ok okF1 (C := cdX1_compared) (by rfl) [166] 60 (by exact Nat.le_of_ble_eq_true rfl) ?_
      simp (maxSteps := 2000000) only [go, stp, inS, ↓reduceIte, Bool.false_eq_true, Nat.reduceLT, Nat.reduceEqDiff, Nat.reduceAdd, ldI, ldL, ldA, st1, st2, okS, List.getElem?_cons_zero, List.getElem?_cons_succ, List.length_cons, List.length_nil, List.set_cons_zero, List.set_cons_succ, callP, callF, popN, ct, Value.category, cI, List.getD_cons_zero, List.getD_cons_succ, and_self, and_true, true_and, Nat.zero_le, Nat.reduceLeDiff, Nat.add_zero, Nat.zero_add, List.nil_append, List.cons_append, Option.toList_some, Option.toList_none, List.append_nil, hset_ss, true_or, or_true, eq_self, beq_self_eq_true, List.drop_succ_cons, List.drop_zero, swT, swL, hset_ap, not_true_eq_false, not_false_eq_true, true_implies, false_implies, implies_true, Int32.reduceLE, Int32.reduceLT, Int32.reduceAdd, Int32.reduceSub, Int32.reduceOfInt, Int32.reduceToNatClampNeg, i10, i01, Nat.add_left_cancel_iff, Nat.left_eq_add, Nat.add_eq_left, cdX1_compared, F1, (show h1' t = _ from hE1), (show h1' (t + 1) = _ from hS1), ib0]
      refine ⟨fun d1 => no (fun w => d1 (co_iff.mp w.1)), fun d1 => ⟨fun d2 => no (fun w => d2 (to_iff.mp w.2)), fun d2 => ?_⟩⟩
      have d1 := co_iff.mpr (Classical.not_not.mp d1)
      have d2 := to_iff.mpr (Classical.not_not.mp d2)
      refine E_fire (rule := 6) hE1 (by omega) (fun h' fi' hE' hf hO' => ?_)
      rw [nz] at hf
      refine go_ok okF1 (C := cdX1_compared) (by rfl) [166] 60 (by exact Nat.le_of_ble_eq_true rfl) ?_
      simp (maxSteps := 2000000) only [go, stp, inS, ↓reduceIte, Bool.false_eq_true, Nat.reduceLT, Nat.reduceEqDiff, Nat.reduceAdd, ldI, ldL, ldA, st1, st2, okS, List.getElem?_cons_zero, List.getElem?_cons_succ, List.length_cons, List.length_nil, List.set_cons_zero, List.set_cons_succ, callP, callF, popN, ct, Value.category, cI, List.getD_cons_zero, List.getD_cons_succ, and_self, and_true, true_and, Nat.zero_le, Nat.reduceLeDiff, Nat.add_zero, Nat.zero_add, List.nil_append, List.cons_append, Option.toList_some, Option.toList_none, List.append_nil, hset_ss, true_or, or_true, eq_self, beq_self_eq_true, List.drop_succ_cons, List.drop_zero, swT, swL, hset_ap, not_true_eq_false, not_false_eq_true, true_implies, false_implies, implies_true, Int32.reduceLE, Int32.reduceLT, Int32.reduceAdd, Int32.reduceSub, Int32.reduceOfInt, Int32.reduceToNatClampNeg, i10, i01, Nat.add_left_cancel_iff, Nat.left_eq_add, Nat.add_eq_left, cdX1_compared, F1]
      refine tail h' fi' _ hE' hO' (fun i hi => ?_) (fun i hi => ?_)
      · rw [hf i hi]
        constructor
        · rintro (w | ⟨w, r, hr, w2⟩)
          · exact Or.inl w
          · have w2 := of_decide_eq_true w2
            exact Or.inr ⟨r, hr, Or.inr (Or.inr ⟨w, g62, w2.1, w2.2.1, w2.2.2, d1, d2⟩)⟩
        · rintro (w | ⟨r, hr, w⟩)
          · exact Or.inl w
          · unfold FC at w
            rcases w with ⟨-, w, -⟩ | ⟨-, w, -⟩ | ⟨w0, -, w1, w2, w3, -, -⟩
            · exact absurd w c2
            · exact absurd w c1
            · exact Or.inr ⟨w0, r, hr, decide_eq_true ⟨w1, w2, w3⟩⟩
      · rw [b_ite, b_0, bl _ hi, d1, d2]
        cases bt dn 6 <;> simp
    · -- =
      refine E_fire (rule := 1) hE1 (by omega) (fun h' fi' hE' hf hO' => ?_)
      rw [nz] at hf
      obtain ⟨hEA, hOA⟩ := fin h' fi' hE' hO'
      have hS2 := (show h1' (t + 1) = _ from hS1)
      rw [← hO' (t + 1) (by omega)] at hS2
      refine go_ok okF1 (C := cdX1_compared) (by rfl) [] 60 (by exact Nat.le_of_ble_eq_true rfl) ?_
      simp (maxSteps := 2000000) only [go, stp, inS, ↓reduceIte, Bool.false_eq_true, Nat.reduceLT, Nat.reduceEqDiff, Nat.reduceAdd, ldI, ldL, ldA, st1, st2, okS, List.getElem?_cons_zero, List.getElem?_cons_succ, List.length_cons, List.length_nil, List.set_cons_zero, List.set_cons_succ, callP, callF, popN, ct, Value.category, cI, List.getD_cons_zero, List.getD_cons_succ, and_self, and_true, true_and, Nat.zero_le, Nat.reduceLeDiff, Nat.add_zero, Nat.zero_add, List.nil_append, List.cons_append, Option.toList_some, Option.toList_none, List.append_nil, hset_ss, true_or, or_true, eq_self, beq_self_eq_true, List.drop_succ_cons, List.drop_zero, swT, swL, hset_ap, not_true_eq_false, not_false_eq_true, true_implies, false_implies, implies_true, Int32.reduceLE, Int32.reduceLT, Int32.reduceAdd, Int32.reduceSub, Int32.reduceOfInt, Int32.reduceToNatClampNeg, i10, i01, Nat.add_left_cancel_iff, Nat.left_eq_add, Nat.add_eq_left, cdX1_compared, F1, (show h' t = _ from hE'), hS2]
      have := hq h' fi' hEA (fun i hi => ?_) hOA
      rw [← enc_of (V := fun r => vC (bt dn) (G k) (L k) (R k) (tv f r (L k)) (tv f r (R k))) ?_ ?_ hnr] at this
      exact this
      · intro i hi
        rw [b_or, b_ite, b_0, bl _ hi, bl _ hi]
        by_cases hr : i < nr
        · unfold vC
          by_cases q2 : tv f i (L k) = -100 <;> by_cases q3 : tv f i (R k) = -100
          · cases bt dn 1 <;> simp [hr, q2, q3, c2]
          · cases bt dn 1 <;> simp [hr, q2, q3, c2]
          · cases bt dn 1 <;> simp [hr, q2, q3, c2]
          · by_cases q4 : tv f i (L k) = tv f i (R k)
            · rw [q4] at q2 ⊢
              cases bt dn 1 <;> simp [hr, q2, c2]
            · cases bt dn 1 <;> simp [hr, q2, q3, c2, q4]
        · simp [hr]
      · intro i hi
        rw [b_and, b_not _ (by omega), b_ite, b_0, bl _ (by omega), bl _ (by omega)]
        by_cases hr : i < nr
        · unfold vC
          by_cases q2 : tv f i (L k) = -100 <;> by_cases q3 : tv f i (R k) = -100
          · cases bt dn 1 <;> simp [hr, q2, q3, c2]
          · cases bt dn 1 <;> simp [hr, q2, q3, c2]
          · cases bt dn 1 <;> simp [hr, q2, q3, c2]
          · by_cases q4 : tv f i (L k) = tv f i (R k)
            · rw [q4] at q2 ⊢
              cases bt dn 1 <;> simp [hr, q2, c2]
            · cases bt dn 1 <;> simp [hr, q2, q3, c2, q4]
        · simp [hr]
      · rw [hf i hi]
        constructor
        · rintro (w | ⟨w, r, hr, w2⟩)
          · exact Or.inl w
          · have w2 := of_decide_eq_true w2
            exact Or.inr ⟨r, hr, Or.inl ⟨w, c2, w2.1, w2.2⟩⟩
        · rintro (w | ⟨r, hr, w⟩)
          · exact Or.inl w
          · unfold FC at w
            rcases w with ⟨w0, -, w1, w2⟩ | ⟨-, w, -⟩ | ⟨-, w, -⟩
            · exact Or.inr ⟨w0, r, hr, decide_eq_true ⟨w1, w2⟩⟩
            · exact absurd w c1
            · rw [w] at c2; exact absurd c2 (by decide)
  all_goals
    have n61 : ¬ G k = 61 := by rw [c1]; decide
    have n62 : ¬ G k = 62 := by rw [c1]; decide
    have tail : ∀ (h' : aH) fi' (odd : Int32), EnO h' t tb (alm nr) dn fi' → sOff h1' h' t (t + 1) → firQ fi fi' (fun i => ∃ r, r < nr ∧ FC i (G k) (L k) (R k) (tv f r (L k)) (tv f r (R k))) → (∀ i, i < 32 → bt odd i = (decide (i < nr) && (coB (R k) && bt dn 4 && decide (¬ tv f i (L k) = -100 ∧ ¬ tv f i (R k) = -100 ∧ tv f i (L k) = tv f i (R k))))) →
        A z 15 n 0 0 h' 61 [some (.ref t), some (.ref x), some (.int (nI k)), some (.int (L k)), some (.int (R k)), none] [.int odd] Q := by
      intro h' fi' odd hE' hO' hf ho
      obtain ⟨hEA, hOA⟩ := fin h' fi' hE' hO'
      have hS2 := (show h1' (t + 1) = _ from hS1)
      rw [← hO' (t + 1) (by omega)] at hS2
      refine go_ok okF1 (C := cdX1_compared) (by rfl) [] 60 (by exact Nat.le_of_ble_eq_true rfl) ?_
      simp (maxSteps := 2000000) only [go, stp, inS, ↓reduceIte, Bool.false_eq_true, Nat.reduceLT, Nat.reduceEqDiff, Nat.reduceAdd, ldI, ldL, ldA, st1, st2, okS, List.getElem?_cons_zero, List.getElem?_cons_succ, List.length_cons, List.length_nil, List.set_cons_zero, List.set_cons_succ, callP, callF, popN, ct, Value.category, cI, List.getD_cons_zero, List.getD_cons_succ, and_self, and_true, true_and, Nat.zero_le, Nat.reduceLeDiff, Nat.add_zero, Nat.zero_add, List.nil_append, List.cons_append, Option.toList_some, Option.toList_none, List.append_nil, hset_ss, true_or, or_true, eq_self, beq_self_eq_true, List.drop_succ_cons, List.drop_zero, swT, swL, hset_ap, not_true_eq_false, not_false_eq_true, true_implies, false_implies, implies_true, Int32.reduceLE, Int32.reduceLT, Int32.reduceAdd, Int32.reduceSub, Int32.reduceOfInt, Int32.reduceToNatClampNeg, i10, i01, Nat.add_left_cancel_iff, Nat.left_eq_add, Nat.add_eq_left, cdX1_compared, F1, (show h' t = _ from hE'), hS2]
      have := hq h' fi' hEA hf hOA
      rw [← enc_of (V := fun r => vC (bt dn) (G k) (L k) (R k) (tv f r (L k)) (tv f r (R k))) ?_ ?_ hnr] at this
      exact this
      · intro i hi
        rw [b_or, bl _ hi, ho i hi]
        by_cases hr : i < nr
        · unfold vC
          by_cases q2 : tv f i (L k) = -100
          · simp [hr, q2, n61]
          · by_cases q3 : tv f i (R k) = -100
            · simp [hr, q3, n61]
            · by_cases q4 : tv f i (L k) < tv f i (R k)
              · simp [hr, q2, q3, q4, c1]
              · by_cases q5 : tv f i (L k) = tv f i (R k)
                · rw [if_neg (fun w => w.elim q2 q3), if_pos c1, if_neg q4]
                  cases coB (R k) <;> cases bt dn 4 <;> simp [hr, q2, q3, q4, q5]
                · simp [hr, q2, q3, q4, q5, c1]
        · simp [hr]
      · intro i hi
        rw [bl _ (by omega)]
        by_cases hr : i < nr
        · unfold vC
          by_cases q2 : tv f i (L k) = -100
          · simp [hr, q2, n61]
          · by_cases q3 : tv f i (R k) = -100
            · simp [hr, q3, n61]
            · rw [if_neg (fun w => w.elim q2 q3), if_pos c1]
              by_cases q4 : tv f i (L k) < tv f i (R k)
              · simp [hr, q2, q3, q4]
              · rw [if_neg q4]
                split <;> simp [hr, q2, q3]
        · simp [hr]
  · -- <, the second no column
    refine tail h1' fi 0 hE1 sOff.rf (fun i hi => ?_) (fun i hi => ?_)
    · constructor
      · exact fun w => Or.inl w
      · rintro (w | ⟨r, hr, w⟩)
        · exact w
        · unfold FC at w
          rcases w with ⟨-, w, -⟩ | ⟨-, -, -, -, -, w⟩ | ⟨-, w, -⟩
          · exact absurd w n61
          · exact absurd (co_iff.mp w) c2
          · exact absurd w n62
    · rw [b_0]
      have : coB (R k) = false := by
        cases hcb : coB (R k) with
        | false => rfl
        | true => exact absurd (co_iff.mp hcb) c2
      simp [this]
  · have c2 := co_iff.mpr (Classical.not_not.mp c2)
    refine E_fire (rule := 4) hE1 (by omega) (fun h' fi' hE' hf hO' => ?_)
    rw [nz] at hf
    refine go_ok okF1 (C := cdX1_compared) (by rfl) [61] 60 (by exact Nat.le_of_ble_eq_true rfl) ?_
    simp (maxSteps := 2000000) only [go, stp, inS, ↓reduceIte, Bool.false_eq_true, Nat.reduceLT, Nat.reduceEqDiff, Nat.reduceAdd, ldI, ldL, ldA, st1, st2, okS, List.getElem?_cons_zero, List.getElem?_cons_succ, List.length_cons, List.length_nil, List.set_cons_zero, List.set_cons_succ, callP, callF, popN, ct, Value.category, cI, List.getD_cons_zero, List.getD_cons_succ, and_self, and_true, true_and, Nat.zero_le, Nat.reduceLeDiff, Nat.add_zero, Nat.zero_add, List.nil_append, List.cons_append, Option.toList_some, Option.toList_none, List.append_nil, hset_ss, true_or, or_true, eq_self, beq_self_eq_true, List.drop_succ_cons, List.drop_zero, swT, swL, hset_ap, not_true_eq_false, not_false_eq_true, true_implies, false_implies, implies_true, Int32.reduceLE, Int32.reduceLT, Int32.reduceAdd, Int32.reduceSub, Int32.reduceOfInt, Int32.reduceToNatClampNeg, i10, i01, Nat.add_left_cancel_iff, Nat.left_eq_add, Nat.add_eq_left, cdX1_compared, F1]
    refine tail h' fi' _ hE' hO' (fun i hi => ?_) (fun i hi => ?_)
    · rw [hf i hi]
      constructor
      · rintro (w | ⟨w, r, hr, w2⟩)
        · exact Or.inl w
        · have w2 := of_decide_eq_true w2
          exact Or.inr ⟨r, hr, Or.inr (Or.inl ⟨w, c1, w2.1, w2.2.1, w2.2.2, c2⟩)⟩
      · rintro (w | ⟨r, hr, w⟩)
        · exact Or.inl w
        · unfold FC at w
          rcases w with ⟨-, w, -⟩ | ⟨w0, -, w1, w2, w3, -⟩ | ⟨-, w, -⟩
          · exact absurd w n61
          · exact Or.inr ⟨w0, r, hr, decide_eq_true ⟨w1, w2, w3⟩⟩
          · exact absurd w n62
    · rw [b_ite, b_0, bl _ hi, c2]
      cases bt dn 4 <;> simp
end E4
