
def TmF (i : Nat) : Int32 := ((1 : Int32) <<< (nI (i / 4) &&& 31)) ||| (if i % 4 = 0 then 0 else (1 : Int32) <<< (nI (6 + i / 12 * 3 + (i % 4 - 1)) &&& 31))
theorem sAr1 (z : aZ) : sArr z (UInt32.ofNat 1).toNat = (6, sA1) := by
  rw [show (UInt32.ofNat 1).toNat = 1 by decide]; unfold sArr; rw [if_neg (by omega), if_pos rfl]
theorem sAr0 (z : aZ) : sArr z (UInt32.ofNat 0).toNat = (6, sA0) := by
  rw [show (UInt32.ofNat 0).toNat = 0 by decide]; unfold sArr; rw [if_pos rfl]
theorem sAu1 : (UInt32.ofNat 1).toNat < 4 := by decide
theorem sAu0 : (UInt32.ofNat 0).toNat < 4 := by decide
set_option maxRecDepth 100000 in
set_option maxHeartbeats 400000 in
theorem Z_list {n : Nat} {h : aH} {Q : aQ} {t : Nat} {T0 : Nat → Int32} (hS : SmO h t T0) (hq : ∀ h' Tm, SmO h' t Tm → (∀ i, i < 24 → Tm i = TmF i) → sOff h h' (t + 1) (t + 2) → Q none n h') : Ok 49 [.ref t] n h Q := by
  refine ok_of kMX7_listTables kCX7_listTables (Nat.le_of_ble_eq_true rfl) (fun z => ?_)
  change A z _ _ 0 0 _ 0 [some (.ref t), none, none, none, none] [] _
  refine go_ok okF1 (C := cdX7_listTables) (by rfl) [4] 20 (by exact Nat.le_of_ble_eq_true rfl) ?_
  simp (maxSteps := 2000000) only [go, stp, inS, ↓reduceIte, Bool.false_eq_true, Nat.reduceLT, Nat.reduceEqDiff, Nat.reduceAdd, ldI, ldL, ldA, st1, st2, okS, List.getElem?_cons_zero, List.getElem?_cons_succ, List.length_cons, List.length_nil, List.set_cons_zero, List.set_cons_succ, callP, callF, popN, ct, Value.category, cI, List.getD_cons_zero, List.getD_cons_succ, and_self, and_true, true_and, Nat.zero_le, Nat.reduceLeDiff, Nat.add_zero, Nat.zero_add, List.nil_append, List.cons_append, Option.toList_some, Option.toList_none, List.append_nil, hset_ss, true_or, or_true, eq_self, beq_self_eq_true, List.drop_succ_cons, List.drop_zero, swT, swL, hset_ap, not_true_eq_false, not_false_eq_true, true_implies, false_implies, implies_true, Int32.reduceLE, Int32.reduceLT, Int32.reduceAdd, Int32.reduceSub, Int32.reduceOfInt, Int32.reduceToNatClampNeg, i10, i01, Nat.add_left_cancel_iff, Nat.left_eq_add, Nat.add_eq_left, cdX7_listTables, F1]
  have outer : ∀ m f (h' : aH) (Tm : Nat → Int32) o3 o4, f + m = 6 → SmO h' t Tm → (∀ i, i < 4 * f → Tm i = TmF i) → sOff h h' (t + 1) (t + 2) → A z 49 n 0 0 h' 4 [some (.ref t), some (.int (nI (4 * f))), some (.int (nI f)), o3, o4] [] Q := by
    intro m
    induction m with
    | zero =>
      intro f h' Tm o3 o4 hf hS' hT hO
      have : f = 6 := by omega
      subst this
      refine go_ok okF1 (C := cdX7_listTables) (by rfl) [4] 20 (by exact Nat.le_of_ble_eq_true rfl) ?_
      simp (maxSteps := 2000000) only [go, stp, inS, ↓reduceIte, Bool.false_eq_true, Nat.reduceLT, Nat.reduceEqDiff, Nat.reduceAdd, ldI, ldL, ldA, st1, st2, okS, List.getElem?_cons_zero, List.getElem?_cons_succ, List.length_cons, List.length_nil, List.set_cons_zero, List.set_cons_succ, callP, callF, popN, ct, Value.category, cI, List.getD_cons_zero, List.getD_cons_succ, and_self, and_true, true_and, Nat.zero_le, Nat.reduceLeDiff, Nat.add_zero, Nat.zero_add, List.nil_append, List.cons_append, Option.toList_some, Option.toList_none, List.append_nil, hset_ss, true_or, or_true, eq_self, beq_self_eq_true, List.drop_succ_cons, List.drop_zero, swT, swL, hset_ap, not_true_eq_false, not_false_eq_true, true_implies, false_implies, implies_true, Int32.reduceLE, Int32.reduceLT, Int32.reduceAdd, Int32.reduceSub, Int32.reduceOfInt, Int32.reduceToNatClampNeg, i10, i01, Nat.add_left_cancel_iff, Nat.left_eq_add, Nat.add_eq_left, cdX7_listTables, F1, (show (6 : Int32) ≤ nI 6 by decide)]
      exact hq h' Tm hS' (fun i hi => hT i (by omega)) hO
    | succ m ih =>
      intro f h' Tm o3 o4 hf hS' hT hO
      have hlt : ¬ (6 : Int32) ≤ nI f := by rw [show (6 : Int32) = nI 6 from rfl, i_le (by omega) (by omega)]; omega
      have h24 : ¬ (24 : Int32) ≤ nI (4 * f) := by rw [show (24 : Int32) = nI 24 from rfl, i_le (by omega) (by omega)]; omega
      have hc : (nI f).toNatClampNeg = f := i_cl (by omega)
      have hc4 : (nI (4 * f)).toNatClampNeg = 4 * f := i_cl (by omega)
      -- the table of one row
      refine go_ok okF1 (C := cdX7_listTables) (by rfl) [4, 12] 60 (by exact Nat.le_of_ble_eq_true rfl) ?_
      simp (maxSteps := 2000000) only [go, stp, inS, ↓reduceIte, Bool.false_eq_true, Nat.reduceLT, Nat.reduceEqDiff, Nat.reduceAdd, ldI, ldL, ldA, st1, st2, okS, List.getElem?_cons_zero, List.getElem?_cons_succ, List.length_cons, List.length_nil, List.set_cons_zero, List.set_cons_succ, callP, callF, popN, ct, Value.category, cI, List.getD_cons_zero, List.getD_cons_succ, and_self, and_true, true_and, Nat.zero_le, Nat.reduceLeDiff, Nat.add_zero, Nat.zero_add, List.nil_append, List.cons_append, Option.toList_some, Option.toList_none, List.append_nil, hset_ss, true_or, or_true, eq_self, beq_self_eq_true, List.drop_succ_cons, List.drop_zero, swT, swL, hset_ap, not_true_eq_false, not_false_eq_true, true_implies, false_implies, implies_true, Int32.reduceLE, Int32.reduceLT, Int32.reduceAdd, Int32.reduceSub, Int32.reduceOfInt, Int32.reduceToNatClampNeg, i10, i01, Nat.add_left_cancel_iff, Nat.left_eq_add, Nat.add_eq_left, cdX7_listTables, F1, hlt]
      refine go_ok okF1 (C := cdX7_listTables) (by rfl) [4, 12] 60 (by exact Nat.le_of_ble_eq_true rfl) ?_
      simp (maxSteps := 2000000) only [go, stp, inS, ↓reduceIte, Bool.false_eq_true, Nat.reduceLT, Nat.reduceEqDiff, Nat.reduceAdd, ldI, ldL, ldA, st1, st2, okS, List.getElem?_cons_zero, List.getElem?_cons_succ, List.length_cons, List.length_nil, List.set_cons_zero, List.set_cons_succ, callP, callF, popN, ct, Value.category, cI, List.getD_cons_zero, List.getD_cons_succ, and_self, and_true, true_and, Nat.zero_le, Nat.reduceLeDiff, Nat.add_zero, Nat.zero_add, List.nil_append, List.cons_append, Option.toList_some, Option.toList_none, List.append_nil, hset_ss, true_or, or_true, eq_self, beq_self_eq_true, List.drop_succ_cons, List.drop_zero, swT, swL, hset_ap, not_true_eq_false, not_false_eq_true, true_implies, false_implies, implies_true, Int32.reduceLE, Int32.reduceLT, Int32.reduceAdd, Int32.reduceSub, Int32.reduceOfInt, Int32.reduceToNatClampNeg, i10, i01, Nat.add_left_cancel_iff, Nat.left_eq_add, Nat.add_eq_left, cdX7_listTables, F1, hlt, h24, hS'.1, hS'.2, hc4, nI_1, sAr1, sAu1]
      refine ⟨vp_in_nI (by omega) (by omega), ?_⟩
      -- those of two
      have inner : ∀ m2 g k (h2 : aH) (T2 : Nat → Int32) o4, g + m2 = 6 → k = (if f < 3 then (if g < 3 then g else 3) else (if g < 3 then 0 else g - 3)) → SmO h2 t T2 → (∀ i, i < 4 * f + 1 + k → T2 i = TmF i) → sOff h h2 (t + 1) (t + 2) → A z 49 n 0 0 h2 12 [some (.ref t), some (.int (nI (4 * f + 1 + k))), some (.int (nI f)), some (.int (nI g)), o4] [] Q := by
        intro m2
        induction m2 with
        | zero =>
          intro g k h2 T2 o4 hg hk hS2 hT2 hO2
          have : g = 6 := by omega
          subst this
          have hk3 : k = 3 := by rw [hk]; split <;> rfl
          subst hk3
          refine go_ok okF1 (C := cdX7_listTables) (by rfl) [4, 12] 60 (by exact Nat.le_of_ble_eq_true rfl) ?_
          simp (maxSteps := 2000000) only [go, stp, inS, ↓reduceIte, Bool.false_eq_true, Nat.reduceLT, Nat.reduceEqDiff, Nat.reduceAdd, ldI, ldL, ldA, st1, st2, okS, List.getElem?_cons_zero, List.getElem?_cons_succ, List.length_cons, List.length_nil, List.set_cons_zero, List.set_cons_succ, callP, callF, popN, ct, Value.category, cI, List.getD_cons_zero, List.getD_cons_succ, and_self, and_true, true_and, Nat.zero_le, Nat.reduceLeDiff, Nat.add_zero, Nat.zero_add, List.nil_append, List.cons_append, Option.toList_some, Option.toList_none, List.append_nil, hset_ss, true_or, or_true, eq_self, beq_self_eq_true, List.drop_succ_cons, List.drop_zero, swT, swL, hset_ap, not_true_eq_false, not_false_eq_true, true_implies, false_implies, implies_true, Int32.reduceLE, Int32.reduceLT, Int32.reduceAdd, Int32.reduceSub, Int32.reduceOfInt, Int32.reduceToNatClampNeg, i10, i01, Nat.add_left_cancel_iff, Nat.left_eq_add, Nat.add_eq_left, cdX7_listTables, F1, (show (6 : Int32) ≤ nI 6 by decide), nI_1]
          exact ih (f + 1) h2 T2 _ _ (by omega) hS2 (fun i hi => hT2 i (by omega)) hO2
        | succ m2 ih2 =>
          intro g k h2 T2 o4 hg hk hS2 hT2 hO2
          have hlt2 : ¬ (6 : Int32) ≤ nI g := by rw [show (6 : Int32) = nI 6 from rfl, i_le (by omega) (by omega)]; omega
          have hne : ¬ nI g = -1 := (by decide +kernel : ∀ g, g < 6 → ¬ nI g = -1) g (by omega)
          have hcg : (nI g).toNatClampNeg = g := i_cl (by omega)
          have hk2 : k ≤ 3 := by rw [hk]; split <;> split <;> omega
          have hck : (nI (4 * f + 1 + k)).toNatClampNeg = 4 * f + 1 + k := i_cl (by omega)
          have h6g : (6 : Int32) + nI g = nI (6 + g) := nI_add 6 g
          refine go_ok okF1 (C := cdX7_listTables) (by rfl) [4, 12, 82] 60 (by exact Nat.le_of_ble_eq_true rfl) ?_
          simp (maxSteps := 2000000) only [go, stp, inS, ↓reduceIte, Bool.false_eq_true, Nat.reduceLT, Nat.reduceEqDiff, Nat.reduceAdd, ldI, ldL, ldA, st1, st2, okS, List.getElem?_cons_zero, List.getElem?_cons_succ, List.length_cons, List.length_nil, List.set_cons_zero, List.set_cons_succ, callP, callF, popN, ct, Value.category, cI, List.getD_cons_zero, List.getD_cons_succ, and_self, and_true, true_and, Nat.zero_le, Nat.reduceLeDiff, Nat.add_zero, Nat.zero_add, List.nil_append, List.cons_append, Option.toList_some, Option.toList_none, List.append_nil, hset_ss, true_or, or_true, eq_self, beq_self_eq_true, List.drop_succ_cons, List.drop_zero, swT, swL, hset_ap, not_true_eq_false, not_false_eq_true, true_implies, false_implies, implies_true, Int32.reduceLE, Int32.reduceLT, Int32.reduceAdd, Int32.reduceSub, Int32.reduceOfInt, Int32.reduceToNatClampNeg, i10, i01, Nat.add_left_cancel_iff, Nat.left_eq_add, Nat.add_eq_left, cdX7_listTables, F1, hlt2, hne, hcg, hc, sAr1, sAu1, hS2.1, hS2.2, hck, nI_1, h6g]
          have hsame : sA1 f = sA1 g ↔ (f < 3 ↔ g < 3) := by
            unfold sA1
            by_cases c1 : f < 3 <;> by_cases c2 : g < 3 <;> simp [c1, c2]
          refine ⟨vp_in_nI (by omega) (by omega), vp_in_nI (by omega) (by omega), fun c => ?_, fun c => ⟨fun c5 => ?_, fun c5 => ⟨vp_in_nI (by omega) (by omega), ?_⟩⟩⟩
          · rw [hsame] at c
            refine go_ok okF1 (C := cdX7_listTables) (by rfl) [4, 12] 60 (by exact Nat.le_of_ble_eq_true rfl) ?_
            simp (maxSteps := 2000000) only [go, stp, inS, ↓reduceIte, Bool.false_eq_true, Nat.reduceLT, Nat.reduceEqDiff, Nat.reduceAdd, ldI, ldL, ldA, st1, st2, okS, List.getElem?_cons_zero, List.getElem?_cons_succ, List.length_cons, List.length_nil, List.set_cons_zero, List.set_cons_succ, callP, callF, popN, ct, Value.category, cI, List.getD_cons_zero, List.getD_cons_succ, and_self, and_true, true_and, Nat.zero_le, Nat.reduceLeDiff, Nat.add_zero, Nat.zero_add, List.nil_append, List.cons_append, Option.toList_some, Option.toList_none, List.append_nil, hset_ss, true_or, or_true, eq_self, beq_self_eq_true, List.drop_succ_cons, List.drop_zero, swT, swL, hset_ap, not_true_eq_false, not_false_eq_true, true_implies, false_implies, implies_true, Int32.reduceLE, Int32.reduceLT, Int32.reduceAdd, Int32.reduceSub, Int32.reduceOfInt, Int32.reduceToNatClampNeg, i10, i01, Nat.add_left_cancel_iff, Nat.left_eq_add, Nat.add_eq_left, cdX7_listTables, F1, nI_1]
            refine ih2 (g + 1) k h2 T2 _ (by omega) ?_ hS2 hT2 hO2
            rw [hk]
            by_cases c1 : f < 3 <;> by_cases c2 : g < 3 <;> simp [c1, c2] at c ⊢ <;> omega
          · rw [hsame] at c
            have c5 := (i_le (a := 24) (by omega) (by omega)).mp c5
            have : k < 3 := by rw [hk]; by_cases c1 : f < 3 <;> by_cases c2 : g < 3 <;> simp [c1, c2] at c ⊢ <;> omega
            omega
          · rw [hsame] at c
            refine go_ok okF1 (C := cdX7_listTables) (by rfl) [4, 12] 60 (by exact Nat.le_of_ble_eq_true rfl) ?_
            simp (maxSteps := 2000000) only [go, stp, inS, ↓reduceIte, Bool.false_eq_true, Nat.reduceLT, Nat.reduceEqDiff, Nat.reduceAdd, ldI, ldL, ldA, st1, st2, okS, List.getElem?_cons_zero, List.getElem?_cons_succ, List.length_cons, List.length_nil, List.set_cons_zero, List.set_cons_succ, callP, callF, popN, ct, Value.category, cI, List.getD_cons_zero, List.getD_cons_succ, and_self, and_true, true_and, Nat.zero_le, Nat.reduceLeDiff, Nat.add_zero, Nat.zero_add, List.nil_append, List.cons_append, Option.toList_some, Option.toList_none, List.append_nil, hset_ss, true_or, or_true, eq_self, beq_self_eq_true, List.drop_succ_cons, List.drop_zero, swT, swL, hset_ap, not_true_eq_false, not_false_eq_true, true_implies, false_implies, implies_true, Int32.reduceLE, Int32.reduceLT, Int32.reduceAdd, Int32.reduceSub, Int32.reduceOfInt, Int32.reduceToNatClampNeg, i10, i01, Nat.add_left_cancel_iff, Nat.left_eq_add, Nat.add_eq_left, cdX7_listTables, F1, nI_1]
            have hkk : k + 3 * (f / 3) = g ∧ k < 3 := by rw [hk]; by_cases c1 : f < 3 <;> by_cases c2 : g < 3 <;> simp [c1, c2] at c ⊢ <;> omega
            refine ih2 (g + 1) (k + 1) _ (upd T2 (4 * f + 1 + k) _) _ (by omega) ?_ ⟨?_, hset_s _ _ _⟩ ?_ (hO2.set (by omega) (by omega))
            · rw [hk]
              by_cases c1 : f < 3 <;> by_cases c2 : g < 3 <;> simp [c1, c2] at c ⊢ <;> (try split) <;> omega
            · rw [hset_n _ _ (by omega)]; exact hS2.1
            · intro i hi
              by_cases c6 : i = 4 * f + 1 + k
              · subst c6
                rw [pk_us, TmF, if_neg (by omega), show (4 * f + 1 + k) / 4 = f by omega, show 6 + (4 * f + 1 + k) / 12 * 3 + ((4 * f + 1 + k) % 4 - 1) = 6 + g by omega]
              · rw [pk_un c6]; exact hT2 i (by omega)
      refine inner 6 0 0 _ (upd Tm (4 * f) ((1 : Int32) <<< (nI f &&& 31) ||| 0)) _ (by omega) (by simp) ⟨?_, ?_⟩ ?_ (hO.set (by omega) (by omega))
      · rw [hset_n _ _ (by omega)]; exact hS'.1
      · exact hset_s _ _ _
      · intro i hi
        by_cases c : i = 4 * f
        · subst c; rw [pk_us, TmF, if_pos (by omega), show 4 * f / 4 = f by omega]
        · rw [pk_un c]; exact hT i (by omega)
  exact outer 6 0 h T0 _ _ (by omega) hS (fun i hi => absurd hi (by omega)) sOff.rf
