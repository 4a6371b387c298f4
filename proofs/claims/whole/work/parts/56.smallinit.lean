
def TmF (i : Nat) : Int32 := ((1 : Int32) <<< (nI (i / 4) &&& 31)) ||| (if i % 4 = 0 then 0 else (1 : Int32) <<< (nI (6 + i / 12 * 3 + (i % 4 - 1)) &&& 31))
theorem sAr1 (z : aZ) : sArr z (UInt32.ofNat 1).toNat = (6, sA1) := by
  rw [show (UInt32.ofNat 1).toNat = 1 by decide]; unfold sArr; rw [if_neg (by omega), if_pos rfl]
theorem sAr0 (z : aZ) : sArr z (UInt32.ofNat 0).toNat = (6, sA0) := by
  rw [show (UInt32.ofNat 0).toNat = 0 by decide]; unfold sArr; rw [if_pos rfl]
theorem sAu1 : (UInt32.ofNat 1).toNat < 4 := by decide
theorem sAu0 : (UInt32.ofNat 0).toNat < 4 := by decide
set_option maxRecDepth 100000 in
set_option maxHeartbeats 400000 in
theorem Z_list {n : Nat} {h : aH} {Q : aQ} {t : Nat} {T0 : Nat → Int32} (hS : SmO h t T0) (hq : ∀ h' Tm, SmO h' t Tm → (∀ i, i < 24 → Tm i = TmF i) → sOff h h' (t + 1) (t + 2) → Q none n h') : Ok 49 [.ref t] n h Q := by
  refine ok_of kMX7_listTables kCX7_listTables (Nat.le_of_ble_eq_true rfl) (fun z => ?_)
  change A z _ _ 0 0 _ 0 [some (.ref t), none, none, none, none] [] _
  refine go_ok okF1 (C := cdX7_listTables) (by rfl) [4] 20 (by exact Nat.le_of_ble_eq_true rfl) ?_
  simp (maxSteps := 2000000) only [go, stp, inS, ↓reduceIte, Bool.false_eq_true, Nat.reduceLT, Nat.reduceEqDiff, Nat.reduceAdd, ldI, ldL, ldA, st1, st2, okS, List.getElem?_cons_zero, List.getElem?_cons_succ, List.length_cons, List.length_nil, List.set_cons_zero, List.set_cons_succ, callP, callF, popN, ct, Value.category, cI, List.getD_cons_zero, List.getD_cons_succ, and_self, and_true, true_and, Nat.zero_le, Nat.reduceLeDiff, Nat.add_zero, Nat.zero_add, List.nil_append, List.cons_append, Option.toList_some, Option.toList_none, List.append_nil, hset_ss, true_or, or_true, eq_self, beq_self_eq_true, List.drop_succ_cons, List.drop_zero, swT, swL, hset_ap, not_true_eq_false, not_false_eq_true, true_implies, false_implies, implies_true, Int32.reduceLE, Int32.reduceLT, Int32.reduceAdd, Int32.reduceSub, Int32.reduceOfInt, Int32.reduceToNatClampNeg, i10, i01, Nat.add_left_cancel_iff, Nat.left_eq_add, Nat.add_eq_left, cdX7_listTables, F1]
  have outer : ∀ m f (h' : aH) (Tm : Nat → Int32) o3 o4, f + m = 6 → SmO h' t Tm → (∀ i, i < 4 * f → Tm i = TmF i) → sOff h h' (t + 1) (t + 2) → A z 49 n 0 0 h' 4 [some (.ref t), some (.int (nI (4 * f))), some (.int (nI f)), o3, o4] [] Q := by
    intro m
    induction m with
    | zero =>
      intro f h' Tm o3 o4 hf hS' hT hO
      have : f = 6 := by omega
      subst this
      refine go_ok okF1 (C := cdX7_listTables) (by rfl) [4] 20 (by exact Nat.le_of_ble_eq_true rfl) ?_
      simp (maxSteps := 2000000) only [go, stp, inS, ↓reduceIte, Bool.false_eq_true, Nat.reduceLT, Nat.reduceEqDiff, Nat.reduceAdd, ldI, ldL, ldA, st1, st2, okS, List.getElem?_cons_zero, List.getElem?_cons_succ, List.length_cons, List.length_nil, List.set_cons_zero, List.set_cons_succ, callP, callF, popN, ct, Value.category, cI, List.getD_cons_zero, List.getD_cons_succ, and_self, and_true, true_and, Nat.zero_le, Nat.reduceLeDiff, Nat.add_zero, Nat.zero_add, List.nil_append, List.cons_append, Option.toList_some, Option.toList_none, List.append_nil, hset_ss, true_or, or_true, eq_self, beq_self_eq_true, List.drop_succ_cons, List.drop_zero, swT, swL, hset_ap, not_true_eq_false, not_false_eq_true, true_implies, false_implies, implies_true, Int32.reduceLE, Int32.reduceLT, Int32.reduceAdd, Int32.reduceSub, Int32.reduceOfInt, Int32.reduceToNatClampNeg, i10, i01, Nat.add_left_cancel_iff, Nat.left_eq_add, Nat.add_eq_left, cdX7_listTables, F1, (show (6 : Int32) ≤ nI 6 by decide)]
      exact hq h' Tm hS' (fun i hi => hT i (by omega)) hO
    | succ m ih =>
      intro f h' Tm o3 o4 hf hS' hT hO
      have hlt : ¬ (6 : Int32) ≤ nI f := by rw [show (6 : Int32) = nI 6 from rfl, i_le (by omega) (by omega)]; omega
      have h24 : ¬ (24 : Int32) ≤ nI (4 * f) := by rw [show (24 : Int32) = nI 24 from rfl, i_le (by omega) (by omega)]; omega
      have hc : (nI f).toNatClampNeg = f := i_cl (by omega)
      have hc4 : (nI (4 * f)).toNatClampNeg = 4 * f := i_cl (by omega)
      -- the table of one row
      refine go_ok okF1 (C := cdX7_listTables) (by rfl) [4, 12] 60 (by exact Nat.le_of_ble_eq_true rfl) ?_
      simp (maxSteps := 2000000) only [go, stp, inS, ↓reduceIte, Bool.false_eq_true, Nat.reduceLT, Nat.reduceEqDiff, Nat.reduceAdd, ldI, ldL, ldA, st1, st2, okS, List.getElem?_cons_zero, List.getElem?_cons_succ, List.length_cons, List.length_nil, List.set_cons_zero, List.set_cons_succ, callP, callF, popN, ct, Value.category, cI, List.getD_cons_zero, List.getD_cons_succ, and_self, and_true, true_and, Nat.zero_le, Nat.reduceLeDiff, Nat.add_zero, Nat.zero_add, List.nil_append, List.cons_append, Option.toList_some, Option.toList_none, List.append_nil, hset_ss, true_or, or_true, eq_self, beq_self_eq_true, List.drop_succ_cons, List.drop_zero, swT, swL, hset_ap, not_true_eq_false, not_false_eq_true, true_implies, false_implies, implies_true, Int32.reduceLE, Int32.reduceLT, Int32.reduceAdd, Int32.reduceSub, Int32.reduceOfInt, Int32.reduceToNatClampNeg, i10, i01, Nat.add_left_cancel_iff, Nat.left_eq_add, Nat.add_eq_left, cdX7_listTables, F1, hlt]
      refine go_ok okF1 (C := cdX7_listTables) (by rfl) [4, 12] 60 (by exact Nat.le_of_ble_eq_true rfl) ?_
      simp (maxSteps := 2000000) only [go, stp, inS, ↓reduceIte, Bool.false_eq_true, Nat.reduceLT, Nat.reduceEqDiff, Nat.reduceAdd, ldI, ldL, ldA, st1, st2, okS, List.getElem?_cons_zero, List.getElem?_cons_succ, List.length_cons, List.length_nil, List.set_cons_zero, List.set_cons_succ, callP, callF, popN, ct, Value.category, cI, List.getD_cons_zero, List.getD_cons_succ, and_self, and_true, true_and, Nat.zero_le, Nat.reduceLeDiff, Nat.add_zero, Nat.zero_add, List.nil_append, List.cons_append, Option.toList_some, Option.toList_none, List.append_nil, hset_ss, true_or, or_true, eq_self, beq_self_eq_true, List.drop_succ_cons, List.drop_zero, swT, swL, hset_ap, not_true_eq_false, not_false_eq_true, true_implies, false_implies, implies_true, Int32.reduceLE, Int32.reduceLT, Int32.reduceAdd, Int32.reduceSub, Int32.reduceOfInt, Int32.reduceToNatClampNeg, i10, i01, Nat.add_left_cancel_iff, Nat.left_eq_add, Nat.add_eq_left, cdX7_listTables, F1, hlt, h24, hS'.1, hS'.2, hc4, nI_1, sAr1, sAu1]
      refine ⟨vp_in_nI (by omega) (by omega), ?_⟩
      -- those of two
      have inner : ∀ m2 g k (h2 : aH) (T2 : Nat → Int32) o4, g + m2 = 6 → k = (if f < 3 then (if g < 3 then g else 3) else (if g < 3 then 0 else g - 3)) → SmO h2 t T2 → (∀ i, i < 4 * f + 1 + k → T2 i = TmF i) → sOff h h2 (t + 1) (t + 2) → A z 49 n 0 0 h2 12 [some (.ref t), some (.int (nI (4 * f + 1 + k))), some (.int (nI f)), some (.int (nI g)), o4] [] Q := by
        intro m2
        induction m2 with
        | zero =>
          intro g k h2 T2 o4 hg hk hS2 hT2 hO2
          have : g = 6 := by omega
          subst this
          have hk3 : k = 3 := by rw [hk]; split <;> rfl
          subst hk3
          refine go_ok okF1 (C := cdX7_listTables) (by rfl) [4, 12] 60 (by exact Nat.le_of_ble_eq_true rfl) ?_
          simp (maxSteps := 2000000) only [go, stp, inS, ↓reduceIte, Bool.false_eq_true, Nat.reduceLT, Nat.reduceEqDiff, Nat.reduceAdd, ldI, ldL, ldA, st1, st2, okS, List.getElem?_cons_zero, List.getElem?_cons_succ, List.length_cons, List.length_nil, List.set_cons_zero, List.set_cons_succ, callP, callF, popN, ct, Value.category, cI, List.getD_cons_zero, List.getD_cons_succ, and_self, and_true, true_and, Nat.zero_le, Nat.reduceLeDiff, Nat.add_zero, Nat.zero_add, List.nil_append, List.cons_append, Option.toList_some, Option.toList_none, List.append_nil, hset_ss, true_or, or_true, eq_self, beq_self_eq_true, List.drop_succ_cons, List.drop_zero, swT, swL, hset_ap, not_true_eq_false, not_false_eq_true, true_implies, false_implies, implies_true, Int32.reduceLE, Int32.reduceLT, Int32.reduceAdd, Int32.reduceSub, Int32.reduceOfInt, Int32.reduceToNatClampNeg, i10, i01, Nat.add_left_cancel_iff, Nat.left_eq_add, Nat.add_eq_left, cdX7_listTables, F1, (show (6 : Int32) ≤ nI 6 by decide), nI_1]
          exact ih (f + 1) h2 T2 _ _ (by omega) hS2 (fun i hi => hT2 i (by omega)) hO2
        | succ m2 ih2 =>
          intro g k h2 T2 o4 hg hk hS2 hT2 hO2
          have hlt2 : ¬ (6 : Int32) ≤ nI g := by rw [show (6 : Int32) = nI 6 from rfl, i_le (by omega) (by omega)]; omega
          have hne : ¬ nI g = -1 := (by decide +kernel : ∀ g, g < 6 → ¬ nI g = -1) g (by omega)
          have hcg : (nI g).toNatClampNeg = g := i_cl (by omega)
          have hk2 : k ≤ 3 := by rw [hk]; split <;> split <;> omega
          have hck : (nI (4 * f + 1 + k)).toNatClampNeg = 4 * f + 1 + k := i_cl (by omega)
          have h6g : (6 : Int32) + nI g = nI (6 + g) := nI_add 6 g
          refine go_ok okF1 (C := cdX7_listTables) (by rfl) [4, 12, 82] 60 (by exact Nat.le_of_ble_eq_true rfl) ?_
          simp (maxSteps := 2000000) only [go, stp, inS, ↓reduceIte, Bool.false_eq_true, Nat.reduceLT, Nat.reduceEqDiff, Nat.reduceAdd, ldI, ldL, ldA, st1, st2, okS, List.getElem?_cons_zero, List.getElem?_cons_succ, List.length_cons, List.length_nil, List.set_cons_zero, List.set_cons_succ, callP, callF, popN, ct, Value.category, cI, List.getD_cons_zero, List.getD_cons_succ, and_self, and_true, true_and, Nat.zero_le, Nat.reduceLeDiff, Nat.add_zero, Nat.zero_add, List.nil_append, List.cons_append, Option.toList_some, Option.toList_none, List.append_nil, hset_ss, true_or, or_true, eq_self, beq_self_eq_true, List.drop_succ_cons, List.drop_zero, swT, swL, hset_ap, not_true_eq_false, not_false_eq_true, true_implies, false_implies, implies_true, Int32.reduceLE, Int32.reduceLT, Int32.reduceAdd, Int32.reduceSub, Int32.reduceOfInt, Int32.reduceToNatClampNeg, i10, i01, Nat.add_left_cancel_iff, Nat.left_eq_add, Nat.add_eq_left, cdX7_listTables, F1, hlt2, hne, hcg, hc, sAr1, sAu1, hS2.1, hS2.2, hck, nI_1, h6g]
          have hsame : sA1 f = sA1 g ↔ (f < 3 ↔ g < 3) := by
            unfold sA1
            by_cases c1 : f < 3 <;> by_cases c2 : g < 3 <;> simp [c1, c2]
          refine ⟨vp_in_nI (by omega) (by omega), vp_in_nI (by omega) (by omega), fun c => ?_, fun c => ⟨fun c5 => ?_, fun c5 => ⟨vp_in_nI (by have := mt (i_le (a := 24) (b := 4 * f + 1 + k) (by omega) (by omega)).mpr c5; omega) (by omega), ?_⟩⟩⟩
          · rw [hsame] at c
            refine go_ok okF1 (C := cdX7_listTables) (by rfl) [4, 12] 60 (by exact Nat.le_of_ble_eq_true rfl) ?_
            simp (maxSteps := 2000000) only [go, stp, inS, ↓reduceIte, Bool.false_eq_true, Nat.reduceLT, Nat.reduceEqDiff, Nat.reduceAdd, ldI, ldL, ldA, st1, st2, okS, List.getElem?_cons_zero, List.getElem?_cons_succ, List.length_cons, List.length_nil, List.set_cons_zero, List.set_cons_succ, callP, callF, popN, ct, Value.category, cI, List.getD_cons_zero, List.getD_cons_succ, and_self, and_true, true_and, Nat.zero_le, Nat.reduceLeDiff, Nat.add_zero, Nat.zero_add, List.nil_append, List.cons_append, Option.toList_some, Option.toList_none, List.append_nil, hset_ss, true_or, or_true, eq_self, beq_self_eq_true, List.drop_succ_cons, List.drop_zero, swT, swL, hset_ap, not_true_eq_false, not_false_eq_true, true_implies, false_implies, implies_true, Int32.reduceLE, Int32.reduceLT, Int32.reduceAdd, Int32.reduceSub, Int32.reduceOfInt, Int32.reduceToNatClampNeg, i10, i01, Nat.add_left_cancel_iff, Nat.left_eq_add, Nat.add_eq_left, cdX7_listTables, F1, nI_1]
            refine ih2 (g + 1) k h2 T2 _ (by omega) ?_ hS2 hT2 hO2
            rw [hk]
            by_cases c1 : f < 3 <;> by_cases c2 : g < 3 <;> simp [c1, c2] at c ⊢ <;> omega
          · rw [hsame] at c
            have c5 := (i_le (a := 24) (by omega) (by omega)).mp c5
            have : k < 3 := by rw [hk]; by_cases c1 : f < 3 <;> by_cases c2 : g < 3 <;> simp [c1, c2] at c ⊢ <;> omega
            omega
          · rw [hsame] at c
            refine go_ok okF1 (C := cdX7_listTables) (by rfl) [4, 12] 60 (by exact Nat.le_of_ble_eq_true rfl) ?_
            simp (maxSteps := 2000000) only [go, stp, inS, ↓reduceIte, Bool.false_eq_true, Nat.reduceLT, Nat.reduceEqDiff, Nat.reduceAdd, ldI, ldL, ldA, st1, st2, okS, List.getElem?_cons_zero, List.getElem?_cons_succ, List.length_cons, List.length_nil, List.set_cons_zero, List.set_cons_succ, callP, callF, popN, ct, Value.category, cI, List.getD_cons_zero, List.getD_cons_succ, and_self, and_true, true_and, Nat.zero_le, Nat.reduceLeDiff, Nat.add_zero, Nat.zero_add, List.nil_append, List.cons_append, Option.toList_some, Option.toList_none, List.append_nil, hset_ss, true_or, or_true, eq_self, beq_self_eq_true, List.drop_succ_cons, List.drop_zero, swT, swL, hset_ap, not_true_eq_false, not_false_eq_true, true_implies, false_implies, implies_true, Int32.reduceLE, Int32.reduceLT, Int32.reduceAdd, Int32.reduceSub, Int32.reduceOfInt, Int32.reduceToNatClampNeg, i10, i01, Nat.add_left_cancel_iff, Nat.left_eq_add, Nat.add_eq_left, cdX7_listTables, F1, nI_1]
            have hkk : k + 3 * (f / 3) = g ∧ k < 3 := by rw [hk]; by_cases c1 : f < 3 <;> by_cases c2 : g < 3 <;> simp [c1, c2] at c ⊢ <;> omega
            refine ih2 (g + 1) (k + 1) _ (upd T2 (4 * f + 1 + k) _) _ (by omega) ?_ ⟨?_, hset_s _ _ _⟩ ?_ (hO2.set (by omega) (by omega))
            · rw [hk]
              by_cases c1 : f < 3 <;> by_cases c2 : g < 3 <;> simp [c1, c2] at c ⊢ <;> (try split) <;> omega
            · rw [hset_n _ _ (by omega)]; exact hS2.1
            · intro i hi
              by_cases c6 : i = 4 * f + 1 + k
              · subst c6
                rw [pk_us, TmF, if_neg (by omega), show (4 * f + 1 + k) / 4 = f by omega, show 6 + (4 * f + 1 + k) / 12 * 3 + ((4 * f + 1 + k) % 4 - 1) = 6 + g by omega]
              · rw [pk_un c6]; exact hT2 i (by omega)
      refine inner 6 0 0 _ (upd Tm (4 * f) ((1 : Int32) <<< (nI f &&& 31) ||| 0)) _ (by omega) (by simp) ⟨?_, ?_⟩ ?_ (hO.set (by omega) (by omega))
      · rw [hset_n _ _ (by omega)]; exact hS'.1
      · exact hset_s _ _ _
      · intro i hi
        by_cases c : i = 4 * f
        · subst c; rw [pk_us, TmF, if_pos (by omega), show 4 * f / 4 = f by omega]
        · rw [pk_un c]; exact hT i (by omega)
  exact outer 6 0 h T0 _ _ (by omega) hS (fun i hi => absurd hi (by omega)) sOff.rf
def smTf (q : Nat) : Int32 := if q % 3 = 0 then sA0 (q / 3 % 6) else if q % 3 = 1 then sA1 (q / 3 % 6) else 0
set_option maxRecDepth 100000 in
set_option maxHeartbeats 400000 in
theorem N_smalls {n : Nat} {h : aH} {Q : aQ} {t : Nat} {a b c d : Value} (hT : h t = some (.inl (7, [a, b, c, d])))
    (hq : ∀ h' Tm f sE, SmO h' t Tm → (∀ i, i < 24 → Tm i = TmF i) → LwO h' (t + 8) (t + 5) (t + 2) → EnAt h' (t + 5) (t + 2) 0 0 0 (fun _ => 0) → TbAt h' (t + 2) 12 f sE 12 → SEok f sE 12 → (∀ q, q < 36 → f q = smTf q) → lo h h' t → Q none (t + 9) h') : Ok 48 [.ref t] (t + 1) h Q := by
  refine ok_of kMX7_init kCX7_init (Nat.le_of_ble_eq_true rfl) (fun z => ?_)
  change A z _ _ 0 0 _ 0 [some (.ref t), none] [] _
  refine go_ok okF1 (C := cdX7_init) (by rfl) [27] 30 (by exact Nat.le_of_ble_eq_true rfl) ?_
  simp (maxSteps := 2000000) only [go, stp, inS, ↓reduceIte, Bool.false_eq_true, Nat.reduceLT, Nat.reduceEqDiff, Nat.reduceAdd, ldI, ldL, ldA, st1, st2, okS, List.getElem?_cons_zero, List.getElem?_cons_succ, List.length_cons, List.length_nil, List.set_cons_zero, List.set_cons_succ, callP, callF, popN, ct, Value.category, cI, List.getD_cons_zero, List.getD_cons_succ, and_self, and_true, true_and, Nat.zero_le, Nat.reduceLeDiff, Nat.add_zero, Nat.zero_add, List.nil_append, List.cons_append, Option.toList_some, Option.toList_none, List.append_nil, hset_ss, true_or, or_true, eq_self, beq_self_eq_true, List.drop_succ_cons, List.drop_zero, swT, swL, hset_ap, not_true_eq_false, not_false_eq_true, true_implies, false_implies, implies_true, Int32.reduceLE, Int32.reduceLT, Int32.reduceAdd, Int32.reduceSub, Int32.reduceOfInt, Int32.reduceToNatClampNeg, i10, i01, Nat.add_left_cancel_iff, Nat.left_eq_add, Nat.add_eq_left, cdX7_init, F1, hT, mcT, msT, Nat.add_assoc]
  refine N_table (m := 12) (t := t + 2) (by omega) (hset_s _ _ _) (fun h1 hT1 hO1 => ?_)
  have e0 : h1 t = some (.inl (7, [a, b, c, .ref (t + 1)])) := by rw [hO1 _ (by omega)]; simp [hset_ap]
  have e1 : h1 (t + 1) = some (.inr (24, .inl (fun _ => 0))) := by rw [hO1 _ (by omega)]; simp [hset_ap]
  have e2 : lo h h1 t := fun q hq => by rw [hO1 _ (by omega)]; simp [hset_ap, show q ≠ t by omega, show q ≠ t + 1 by omega, show q ≠ t + 2 by omega]
  refine go_ok okF1 (C := cdX7_init) (by rfl) [27] 30 (by exact Nat.le_of_ble_eq_true rfl) ?_
  simp (maxSteps := 2000000) only [go, stp, inS, ↓reduceIte, Bool.false_eq_true, Nat.reduceLT, Nat.reduceEqDiff, Nat.reduceAdd, ldI, ldL, ldA, st1, st2, okS, List.getElem?_cons_zero, List.getElem?_cons_succ, List.length_cons, List.length_nil, List.set_cons_zero, List.set_cons_succ, callP, callF, popN, ct, Value.category, cI, List.getD_cons_zero, List.getD_cons_succ, and_self, and_true, true_and, Nat.zero_le, Nat.reduceLeDiff, Nat.add_zero, Nat.zero_add, List.nil_append, List.cons_append, Option.toList_some, Option.toList_none, List.append_nil, hset_ss, true_or, or_true, eq_self, beq_self_eq_true, List.drop_succ_cons, List.drop_zero, swT, swL, hset_ap, not_true_eq_false, not_false_eq_true, true_implies, false_implies, implies_true, Int32.reduceLE, Int32.reduceLT, Int32.reduceAdd, Int32.reduceSub, Int32.reduceOfInt, Int32.reduceToNatClampNeg, i10, i01, Nat.add_left_cancel_iff, Nat.left_eq_add, Nat.add_eq_left, cdX7_init, F1, e0]
  have loop : ∀ m i (h' : aH) (f sE : Nat → Int32), i + m = 12 → h' t = some (.inl (7, [.ref (t + 2), b, c, .ref (t + 1)])) → h' (t + 1) = some (.inr (24, .inl (fun _ => 0))) → TbAt h' (t + 2) 12 f sE i → SEok f sE i → (∀ q, q < i * 3 → f q = smTf q) → lo h h' t → A z 48 (t + 5) 4 76 h' 27 [some (.ref t), some (.int (nI i))] [] Q := by
    intro m
    induction m with
    | zero =>
      intro i h' f sE hi g0 g1 hT' hE' hf hO
      have : i = 12 := by omega
      subst this
      refine go_ok okF1 (C := cdX7_init) (by rfl) [27] 30 (by exact Nat.le_of_ble_eq_true rfl) ?_
      simp (maxSteps := 2000000) only [go, stp, inS, ↓reduceIte, Bool.false_eq_true, Nat.reduceLT, Nat.reduceEqDiff, Nat.reduceAdd, ldI, ldL, ldA, st1, st2, okS, List.getElem?_cons_zero, List.getElem?_cons_succ, List.length_cons, List.length_nil, List.set_cons_zero, List.set_cons_succ, callP, callF, popN, ct, Value.category, cI, List.getD_cons_zero, List.getD_cons_succ, and_self, and_true, true_and, Nat.zero_le, Nat.reduceLeDiff, Nat.add_zero, Nat.zero_add, List.nil_append, List.cons_append, Option.toList_some, Option.toList_none, List.append_nil, hset_ss, true_or, or_true, eq_self, beq_self_eq_true, List.drop_succ_cons, List.drop_zero, swT, swL, hset_ap, not_true_eq_false, not_false_eq_true, true_implies, false_implies, implies_true, Int32.reduceLE, Int32.reduceLT, Int32.reduceAdd, Int32.reduceSub, Int32.reduceOfInt, Int32.reduceToNatClampNeg, i10, i01, Nat.add_left_cancel_iff, Nat.left_eq_add, Nat.add_eq_left, cdX7_init, F1, (show (12 : Int32) ≤ nI 12 by decide), g0, mcT, msT, Nat.add_assoc]
      refine N_engine (t := t + 5) (hset_s _ _ _) (fun h2 hE2 hO2 => ?_)
      have g0' : h2 t = some (.inl (7, [.ref (t + 2), b, c, .ref (t + 1)])) := by rw [hO2 _ (by omega), hset_n _ _ (by omega)]; exact g0
      have g1' : h2 (t + 1) = some (.inr (24, .inl (fun _ => 0))) := by rw [hO2 _ (by omega), hset_n _ _ (by omega)]; exact g1
      have hT2 : TbAt h2 (t + 2) 12 f sE 12 := hT'.kept (fun q a b => by rw [hO2 _ (by omega), hset_n _ _ (by omega)])
      have hO2 : lo h h2 t := fun q hq => by rw [hO2 _ (by omega), hset_n _ _ (by omega)]; exact hO q hq
      refine go_ok okF1 (C := cdX7_init) (by rfl) [27] 30 (by exact Nat.le_of_ble_eq_true rfl) ?_
      simp (maxSteps := 2000000) only [go, stp, inS, ↓reduceIte, Bool.false_eq_true, Nat.reduceLT, Nat.reduceEqDiff, Nat.reduceAdd, ldI, ldL, ldA, st1, st2, okS, List.getElem?_cons_zero, List.getElem?_cons_succ, List.length_cons, List.length_nil, List.set_cons_zero, List.set_cons_succ, callP, callF, popN, ct, Value.category, cI, List.getD_cons_zero, List.getD_cons_succ, and_self, and_true, true_and, Nat.zero_le, Nat.reduceLeDiff, Nat.add_zero, Nat.zero_add, List.nil_append, List.cons_append, Option.toList_some, Option.toList_none, List.append_nil, hset_ss, true_or, or_true, eq_self, beq_self_eq_true, List.drop_succ_cons, List.drop_zero, swT, swL, hset_ap, not_true_eq_false, not_false_eq_true, true_implies, false_implies, implies_true, Int32.reduceLE, Int32.reduceLT, Int32.reduceAdd, Int32.reduceSub, Int32.reduceOfInt, Int32.reduceToNatClampNeg, i10, i01, Nat.add_left_cancel_iff, Nat.left_eq_add, Nat.add_eq_left, cdX7_init, F1, g0', mcT, msT, Nat.add_assoc]
      refine N_laws (t := t + 8) (hset_s _ _ _) (fun h3 hL3 hO3 => ?_)
      have g0'' : h3 t = some (.inl (7, [.ref (t + 2), .ref (t + 5), c, .ref (t + 1)])) := by rw [hO3 _ (by omega)]; simp [hset_ap]
      have k3 : ∀ q, t < q → q < t + 8 → h3 q = h2 q := fun q a b => by rw [hO3 _ (by omega)]; simp [hset_ap, show q ≠ t by omega, show q ≠ t + 8 by omega]
      have hO3' : lo h h3 t := fun q hq => by rw [hO3 _ (by omega), hset_n _ _ (by omega), hset_n _ _ (by omega)]; exact hO2 q hq
      refine go_ok okF1 (C := cdX7_init) (by rfl) [27] 30 (by exact Nat.le_of_ble_eq_true rfl) ?_
      simp (maxSteps := 2000000) only [go, stp, inS, ↓reduceIte, Bool.false_eq_true, Nat.reduceLT, Nat.reduceEqDiff, Nat.reduceAdd, ldI, ldL, ldA, st1, st2, okS, List.getElem?_cons_zero, List.getElem?_cons_succ, List.length_cons, List.length_nil, List.set_cons_zero, List.set_cons_succ, callP, callF, popN, ct, Value.category, cI, List.getD_cons_zero, List.getD_cons_succ, and_self, and_true, true_and, Nat.zero_le, Nat.reduceLeDiff, Nat.add_zero, Nat.zero_add, List.nil_append, List.cons_append, Option.toList_some, Option.toList_none, List.append_nil, hset_ss, true_or, or_true, eq_self, beq_self_eq_true, List.drop_succ_cons, List.drop_zero, swT, swL, hset_ap, not_true_eq_false, not_false_eq_true, true_implies, false_implies, implies_true, Int32.reduceLE, Int32.reduceLT, Int32.reduceAdd, Int32.reduceSub, Int32.reduceOfInt, Int32.reduceToNatClampNeg, i10, i01, Nat.add_left_cancel_iff, Nat.left_eq_add, Nat.add_eq_left, cdX7_init, F1, g0'', mcT, msT, Nat.add_assoc]
      refine Z_list (T0 := fun _ => 0) ⟨hset_s _ _ _, ?_⟩ (fun h4 Tm hS4 hTm hO4 => ?_)
      · rw [hset_n _ _ (by omega), k3 _ (by omega) (by omega)]; exact g1'
      have k4 : ∀ q, t + 2 ≤ q → h4 q = h3 q := fun q a => by rw [hO4 _ (by omega), hset_n _ _ (by omega)]
      refine go_ok okF1 (C := cdX7_init) (by rfl) [27] 30 (by exact Nat.le_of_ble_eq_true rfl) ?_
      simp (maxSteps := 2000000) only [go, stp, inS, ↓reduceIte, Bool.false_eq_true, Nat.reduceLT, Nat.reduceEqDiff, Nat.reduceAdd, ldI, ldL, ldA, st1, st2, okS, List.getElem?_cons_zero, List.getElem?_cons_succ, List.length_cons, List.length_nil, List.set_cons_zero, List.set_cons_succ, callP, callF, popN, ct, Value.category, cI, List.getD_cons_zero, List.getD_cons_succ, and_self, and_true, true_and, Nat.zero_le, Nat.reduceLeDiff, Nat.add_zero, Nat.zero_add, List.nil_append, List.cons_append, Option.toList_some, Option.toList_none, List.append_nil, hset_ss, true_or, or_true, eq_self, beq_self_eq_true, List.drop_succ_cons, List.drop_zero, swT, swL, hset_ap, not_true_eq_false, not_false_eq_true, true_implies, false_implies, implies_true, Int32.reduceLE, Int32.reduceLT, Int32.reduceAdd, Int32.reduceSub, Int32.reduceOfInt, Int32.reduceToNatClampNeg, i10, i01, Nat.add_left_cancel_iff, Nat.left_eq_add, Nat.add_eq_left, cdX7_init, F1, mcT, msT]
      refine hq h4 Tm f sE hS4 hTm ?_ ?_ ?_ hE' (fun q hq => hf q (by omega)) ?_
      · unfold LwO; rw [k4 _ (by omega)]; exact hL3
      · have k5 : ∀ q, t + 5 ≤ q → q < t + 8 → h4 q = h2 q := fun q a b => by rw [k4 _ (by omega), k3 _ (by omega) (by omega)]
        obtain ⟨w1, ⟨v1, v2, v3, v4, v5, w2⟩, w3⟩ := hE2
        exact ⟨by unfold EnO; rw [k5 _ (by omega) (by omega)]; exact w1, ⟨v1, v2, v3, v4, v5, by unfold SdAt; rw [k5 _ (by omega) (by omega)]; exact w2⟩, by rw [k5 _ (by omega) (by omega)]; exact w3⟩
      · exact hT2.kept (fun q a b => by rw [k4 _ (by omega), k3 _ (by omega) (by omega)])
      · intro q hq; rw [hO4 _ (by omega), hset_n _ _ (by omega)]; exact hO3' q hq
    | succ m ih =>
      intro i h' f sE hi g0 g1 hT' hE' hf hO
      have hlt : ¬ (12 : Int32) ≤ nI i := by rw [show (12 : Int32) = nI 12 from rfl, i_le (by omega) (by omega)]; omega
      have h6 : nI i - nI i / 6 * 6 = nI (i % 6) := pk_rem (a := i) (d := 6) (by omega) (by omega) (by omega)
      refine go_ok okF1 (C := cdX7_init) (by rfl) [27] 30 (by exact Nat.le_of_ble_eq_true rfl) ?_
      simp (maxSteps := 2000000) only [go, stp, inS, ↓reduceIte, Bool.false_eq_true, Nat.reduceLT, Nat.reduceEqDiff, Nat.reduceAdd, ldI, ldL, ldA, st1, st2, okS, List.getElem?_cons_zero, List.getElem?_cons_succ, List.length_cons, List.length_nil, List.set_cons_zero, List.set_cons_succ, callP, callF, popN, ct, Value.category, cI, List.getD_cons_zero, List.getD_cons_succ, and_self, and_true, true_and, Nat.zero_le, Nat.reduceLeDiff, Nat.add_zero, Nat.zero_add, List.nil_append, List.cons_append, Option.toList_some, Option.toList_none, List.append_nil, hset_ss, true_or, or_true, eq_self, beq_self_eq_true, List.drop_succ_cons, List.drop_zero, swT, swL, hset_ap, not_true_eq_false, not_false_eq_true, true_implies, false_implies, implies_true, Int32.reduceLE, Int32.reduceLT, Int32.reduceAdd, Int32.reduceSub, Int32.reduceOfInt, Int32.reduceToNatClampNeg, i10, i01, Nat.add_left_cancel_iff, Nat.left_eq_add, Nat.add_eq_left, cdX7_init, F1, hlt, g0, hT'.1, sAr0, sAr1, sAu0, sAu1, h6, i_cl (show i % 6 < 2147483648 by omega), Nat.add_assoc, mcT, msT]
      refine ⟨by decide, vp_in_nI (by omega) (by omega), by decide, vp_in_nI (by omega) (by omega), ?_⟩
      refine T_append hT' (by omega) (by omega) hE' (fun c => absurd c (by omega)) (fun _ h2 sE2 hT2 hE2 hO2 => ?_)
      refine go_ok okF1 (C := cdX7_init) (by rfl) [27] 30 (by exact Nat.le_of_ble_eq_true rfl) ?_
      simp (maxSteps := 2000000) only [go, stp, inS, ↓reduceIte, Bool.false_eq_true, Nat.reduceLT, Nat.reduceEqDiff, Nat.reduceAdd, ldI, ldL, ldA, st1, st2, okS, List.getElem?_cons_zero, List.getElem?_cons_succ, List.length_cons, List.length_nil, List.set_cons_zero, List.set_cons_succ, callP, callF, popN, ct, Value.category, cI, List.getD_cons_zero, List.getD_cons_succ, and_self, and_true, true_and, Nat.zero_le, Nat.reduceLeDiff, Nat.add_zero, Nat.zero_add, List.nil_append, List.cons_append, Option.toList_some, Option.toList_none, List.append_nil, hset_ss, true_or, or_true, eq_self, beq_self_eq_true, List.drop_succ_cons, List.drop_zero, swT, swL, hset_ap, not_true_eq_false, not_false_eq_true, true_implies, false_implies, implies_true, Int32.reduceLE, Int32.reduceLT, Int32.reduceAdd, Int32.reduceSub, Int32.reduceOfInt, Int32.reduceToNatClampNeg, i10, i01, Nat.add_left_cancel_iff, Nat.left_eq_add, Nat.add_eq_left, cdX7_init, F1, nI_1]
      refine ih (i + 1) h2 _ sE2 (by omega) (by rw [hO2 _ (by omega)]; exact g0) (by rw [hO2 _ (by omega)]; exact g1) hT2 hE2 (fun q hq => ?_) (fun q hq => by rw [hO2 _ (by omega)]; exact hO q hq)
      unfold upd3
      by_cases c2 : q = i * 3 + 2
      · subst c2; rw [pk_us, smTf, if_neg (by omega), if_neg (by omega)]
      · rw [pk_un c2]
        by_cases c1 : q = i * 3 + 1
        · subst c1; rw [pk_us, smTf, if_neg (by omega), if_pos (by omega), show (i * 3 + 1) / 3 = i by omega]
        · rw [pk_un c1]
          by_cases c0 : q = i * 3
          · subst c0; rw [pk_us, smTf, if_pos (by omega), show i * 3 / 3 = i by omega]
          · rw [pk_un c0]; exact hf q (by omega)
  refine loop 12 0 _ (fun _ => 0) (fun _ => 0) (by omega) (hset_s _ _ _) ?_ ?_ (fun r hr => absurd hr (by omega)) (fun q hq => absurd hq (by omega)) ?_
  · rw [hset_n _ _ (by omega)]; exact e1
  · exact hT1.kept (fun q a b => by rw [hset_n _ _ (by omega)])
  · intro q hq; rw [hset_n _ _ (by omega)]; exact e2 q hq
