
/-! the model: sheets -/
theorem in64 (a b x : Int32) : (a.toInt64 ≤ x.toInt64 ∧ x.toInt64 ≤ b.toInt64) = (a ≤ x ∧ x ≤ b) := by rw [il_le, il_le]
theorem lt_le {a b : Int32} {k : Int} (hb : b.toInt = k) (hb' : a.toInt = k + 1) (x : Int32) : x ≤ b ↔ x < a := by
  rw [Int32.le_iff_toInt_le, Int32.lt_iff_toInt_lt, hb, hb']; exact Int.lt_add_one_iff.symm
theorem in03 (x : Int32) : ((0 : Int64) ≤ x.toInt64 ∧ x.toInt64 ≤ 3) = (0 ≤ x ∧ x < 4) := by
  rw [show (3 : Int64) = (3 : Int32).toInt64 from rfl, show (0 : Int64) = (0 : Int32).toInt64 from rfl, in64, lt_le (a := 4) (b := 3) (k := 3) rfl rfl]
theorem in02 (x : Int32) : ((0 : Int64) ≤ x.toInt64 ∧ x.toInt64 ≤ 2) = (0 ≤ x ∧ x < 3) := by
  rw [show (2 : Int64) = (2 : Int32).toInt64 from rfl, show (0 : Int64) = (0 : Int32).toInt64 from rfl, in64, lt_le (a := 3) (b := 2) (k := 2) rfl rfl]
theorem ix48 (s i : Nat) : (48 : Int32) * nI s + nI i = nI (48 * s + i) := by rw [show (48 : Int32) = nI 48 from rfl, pk_mul, nI_add]
section MA
variable {n : Nat} {h : aH} {Q : aQ} {M : MS}
theorem fmn (k : MOk M) {s : Nat} (hs : s < 4) : M.fm s < 0 ↔ M.fm s = -1 := by
  have := k.fm s hs
  generalize M.fm s = x at this ⊢
  rw [Int32.lt_iff_toInt_lt, ← Int32.toInt_inj, show (0 : Int32).toInt = 0 from rfl, show (-1 : Int32).toInt = -1 from rfl]
  have h1 := this.1
  rw [Int32.le_iff_toInt_le, show (-1 : Int32).toInt = -1 from rfl] at h1
  omega
set_option maxRecDepth 100000 in
set_option maxHeartbeats 400000 in
theorem D_met {k : Int32} (m : MI h M) (hq : ∀ h', MI h' (fdM M k) → sOff h h' 52 80 → Q (some (.int (-10 - k))) n h') : Ok 147 [.ref 52, .int k] n h Q := by
  obtain ⟨c, a, l, m, r⟩ := m
  refine ok_of kMX11_met kCX11_met (Nat.le_of_ble_eq_true rfl) (fun z => ?_)
  change A z _ _ 0 0 _ 0 [some (.ref 52), some (.int k)] [] _
  refine go_ok okF1 (C := cdX11_met) (by rfl) [] 20 (by exact Nat.le_of_ble_eq_true rfl) ?_
  simp (maxSteps := 2000000) only [go, stp, inS, ↓reduceIte, Bool.false_eq_true, Nat.reduceLT, Nat.reduceEqDiff, Nat.reduceAdd, ldI, ldL, ldA, st1, st2, okS, List.getElem?_cons_zero, List.getElem?_cons_succ, List.length_cons, List.length_nil, List.set_cons_zero, List.set_cons_succ, callP, callF, popN, ct, Value.category, cI, List.getD_cons_zero, List.getD_cons_succ, and_self, and_true, true_and, Nat.zero_le, Nat.reduceLeDiff, Nat.add_zero, Nat.zero_add, List.nil_append, List.cons_append, Option.toList_some, Option.toList_none, List.append_nil, hset_ss, true_or, or_true, eq_self, beq_self_eq_true, List.drop_succ_cons, List.drop_zero, swT, swL, hset_ap, not_true_eq_false, not_false_eq_true, true_implies, false_implies, implies_true, Int32.reduceLE, Int32.reduceLT, Int32.reduceAdd, Int32.reduceSub, Int32.reduceOfInt, Int32.reduceToNatClampNeg, i10, i01, Nat.add_left_cancel_iff, Nat.left_eq_add, Nat.add_eq_left, cdX11_met, F1, m.o]
  exact hq _ ⟨upd c 4 k, a, l, m.sc (upd c 4 k), ⟨rfl, r.1.2.1, r.1.2.2.1, r.1.2.2.2⟩, r.2⟩ (sOff.rf.set (by omega) (by omega))
def zL (g : Nat → Int64) (b i q : Nat) : Int64 := if b ≤ q ∧ q < b + i then 0 else g q
theorem zL_0 (g : Nat → Int64) (b : Nat) : zL g b 0 = g := by funext q; unfold zL; rw [if_neg (by omega)]
theorem zL_1 (g : Nat → Int64) (b i : Nat) : vp_updL (zL g b i) (b + i) 0 = zL g b (i + 1) := by
  funext q
  by_cases hq : q = b + i
  · subst hq; rw [pk_uLs]; unfold zL; rw [if_pos (by omega)]
  · rw [pk_uLn hq]; unfold zL
    by_cases h2 : b ≤ q ∧ q < b + i
    · rw [if_pos h2, if_pos (by omega)]
    · rw [if_neg h2, if_neg (by omega)]
set_option maxRecDepth 100000 in
set_option maxHeartbeats 400000 in
theorem D_sheet {x f k : Int32} (m : MI h M) (ok : MOk M) (hq : ∀ h', MI h' (stSheet M x f k).2 → sOff h h' 52 80 → Q (some (.int (stSheet M x f k).1)) n h') : Ok 149 [.ref 52, .int x, .int f, .int k] n h Q := by
  unfold stSheet at hq
  have m0 := m
  obtain ⟨c, a, l, m, r⟩ := m
  refine ok_of kMX11_sheet kCX11_sheet (Nat.le_of_ble_eq_true rfl) (fun z => ?_)
  change A z _ _ 0 0 _ 0 [some (.ref 52), some (.int x), some (.int f), some (.int k), none] [] _
  have bad : ¬ ((0 ≤ x ∧ x < 4) ∧ (0 ≤ f ∧ f < 4) ∧ k ≤ 48) → A z 149 n 0 0 h 25 [some (.ref 52), some (.int x), some (.int f), some (.int k), none] [] Q := fun hc => by
    refine go_ok okF1 (C := cdX11_sheet) (by rfl) [] 40 (by exact Nat.le_of_ble_eq_true rfl) ?_
    simp (maxSteps := 2000000) only [go, stp, inS, ↓reduceIte, Bool.false_eq_true, Nat.reduceLT, Nat.reduceEqDiff, Nat.reduceAdd, ldI, ldL, ldA, st1, st2, okS, List.getElem?_cons_zero, List.getElem?_cons_succ, List.length_cons, List.length_nil, List.set_cons_zero, List.set_cons_succ, callP, callF, popN, ct, Value.category, cI, List.getD_cons_zero, List.getD_cons_succ, and_self, and_true, true_and, Nat.zero_le, Nat.reduceLeDiff, Nat.add_zero, Nat.zero_add, List.nil_append, List.cons_append, Option.toList_some, Option.toList_none, List.append_nil, hset_ss, true_or, or_true, eq_self, beq_self_eq_true, List.drop_succ_cons, List.drop_zero, swT, swL, hset_ap, not_true_eq_false, not_false_eq_true, true_implies, false_implies, implies_true, Int32.reduceLE, Int32.reduceLT, Int32.reduceAdd, Int32.reduceSub, Int32.reduceOfInt, Int32.reduceToNatClampNeg, i10, i01, Nat.add_left_cancel_iff, Nat.left_eq_add, Nat.add_eq_left, cdX11_sheet, F1]
    have hq := hq h
    rw [if_neg hc] at hq
    exact hq m0 sOff.rf
  by_cases hx : 0 ≤ x ∧ x < 4
  · by_cases hf : 0 ≤ f ∧ f < 4
    · refine go_ok okF1 (C := cdX11_sheet) (by rfl) [25, 28] 40 (by exact Nat.le_of_ble_eq_true rfl) ?_
      simp (maxSteps := 2000000) only [go, stp, inS, ↓reduceIte, Bool.false_eq_true, Nat.reduceLT, Nat.reduceEqDiff, Nat.reduceAdd, ldI, ldL, ldA, st1, st2, okS, List.getElem?_cons_zero, List.getElem?_cons_succ, List.length_cons, List.length_nil, List.set_cons_zero, List.set_cons_succ, callP, callF, popN, ct, Value.category, cI, List.getD_cons_zero, List.getD_cons_succ, and_self, and_true, true_and, Nat.zero_le, Nat.reduceLeDiff, Nat.add_zero, Nat.zero_add, List.nil_append, List.cons_append, Option.toList_some, Option.toList_none, List.append_nil, hset_ss, true_or, or_true, eq_self, beq_self_eq_true, List.drop_succ_cons, List.drop_zero, swT, swL, hset_ap, not_true_eq_false, not_false_eq_true, true_implies, false_implies, implies_true, Int32.reduceLE, Int32.reduceLT, Int32.reduceAdd, Int32.reduceSub, Int32.reduceOfInt, Int32.reduceToNatClampNeg, i10, i01, Nat.add_left_cancel_iff, Nat.left_eq_add, Nat.add_eq_left, cdX11_sheet, F1, eq_true hx, in03, eq_true hf]
      refine ⟨fun c1 => ?_, fun c1 => bad (fun q => c1 q.2.2)⟩
      by_cases c2 : k < 0
      · refine go_ok okF1 (C := cdX11_sheet) (by rfl) [] 40 (by exact Nat.le_of_ble_eq_true rfl) ?_
        simp (maxSteps := 2000000) only [go, stp, inS, ↓reduceIte, Bool.false_eq_true, Nat.reduceLT, Nat.reduceEqDiff, Nat.reduceAdd, ldI, ldL, ldA, st1, st2, okS, List.getElem?_cons_zero, List.getElem?_cons_succ, List.length_cons, List.length_nil, List.set_cons_zero, List.set_cons_succ, callP, callF, popN, ct, Value.category, cI, List.getD_cons_zero, List.getD_cons_succ, and_self, and_true, true_and, Nat.zero_le, Nat.reduceLeDiff, Nat.add_zero, Nat.zero_add, List.nil_append, List.cons_append, Option.toList_some, Option.toList_none, List.append_nil, hset_ss, true_or, or_true, eq_self, beq_self_eq_true, List.drop_succ_cons, List.drop_zero, swT, swL, hset_ap, not_true_eq_false, not_false_eq_true, true_implies, false_implies, implies_true, Int32.reduceLE, Int32.reduceLT, Int32.reduceAdd, Int32.reduceSub, Int32.reduceOfInt, Int32.reduceToNatClampNeg, i10, i01, Nat.add_left_cancel_iff, Nat.left_eq_add, Nat.add_eq_left, cdX11_sheet, F1, eq_true c2, m.o]
        refine ⟨fun c3 => absurd c2 (i_nlt.mpr c3), fun c3 => ?_⟩
        refine D_met m0 (fun h' m' hO => ?_)
        refine go_ok okF1 (C := cdX11_sheet) (by rfl) [] 40 (by exact Nat.le_of_ble_eq_true rfl) ?_
        simp (maxSteps := 2000000) only [go, stp, inS, ↓reduceIte, Bool.false_eq_true, Nat.reduceLT, Nat.reduceEqDiff, Nat.reduceAdd, ldI, ldL, ldA, st1, st2, okS, List.getElem?_cons_zero, List.getElem?_cons_succ, List.length_cons, List.length_nil, List.set_cons_zero, List.set_cons_succ, callP, callF, popN, ct, Value.category, cI, List.getD_cons_zero, List.getD_cons_succ, and_self, and_true, true_and, Nat.zero_le, Nat.reduceLeDiff, Nat.add_zero, Nat.zero_add, List.nil_append, List.cons_append, Option.toList_some, Option.toList_none, List.append_nil, hset_ss, true_or, or_true, eq_self, beq_self_eq_true, List.drop_succ_cons, List.drop_zero, swT, swL, hset_ap, not_true_eq_false, not_false_eq_true, true_implies, false_implies, implies_true, Int32.reduceLE, Int32.reduceLT, Int32.reduceAdd, Int32.reduceSub, Int32.reduceOfInt, Int32.reduceToNatClampNeg, i10, i01, Nat.add_left_cancel_iff, Nat.left_eq_add, Nat.add_eq_left, cdX11_sheet, F1]
        have hq := hq h'
        rw [if_pos ⟨hx, hf, c1⟩, if_pos c2] at hq
        exact hq m' hO
      · obtain ⟨s, hs, rfl⟩ := i_of (n := 4) (by omega) (i_nlt.mpr hx.1) hx.2
        obtain ⟨j, hj, rfl⟩ := nI_of c2
        have hj48 : j ≤ 48 := (i_le (b := 48) (by omega) (by omega)).mp c1
        rw [if_pos ⟨hx, hf, c1⟩, if_neg c2, i_cl (show s < 2147483648 by omega), i_cl (show j < 2147483648 by omega)] at hq
        refine go_ok okF1 (C := cdX11_sheet) (by rfl) [55] 60 (by exact Nat.le_of_ble_eq_true rfl) ?_
        simp (maxSteps := 2000000) only [go, stp, inS, ↓reduceIte, Bool.false_eq_true, Nat.reduceLT, Nat.reduceEqDiff, Nat.reduceAdd, ldI, ldL, ldA, st1, st2, okS, List.getElem?_cons_zero, List.getElem?_cons_succ, List.length_cons, List.length_nil, List.set_cons_zero, List.set_cons_succ, callP, callF, popN, ct, Value.category, cI, List.getD_cons_zero, List.getD_cons_succ, and_self, and_true, true_and, Nat.zero_le, Nat.reduceLeDiff, Nat.add_zero, Nat.zero_add, List.nil_append, List.cons_append, Option.toList_some, Option.toList_none, List.append_nil, hset_ss, true_or, or_true, eq_self, beq_self_eq_true, List.drop_succ_cons, List.drop_zero, swT, swL, hset_ap, not_true_eq_false, not_false_eq_true, true_implies, false_implies, implies_true, Int32.reduceLE, Int32.reduceLT, Int32.reduceAdd, Int32.reduceSub, Int32.reduceOfInt, Int32.reduceToNatClampNeg, i10, i01, Nat.add_left_cancel_iff, Nat.left_eq_add, Nat.add_eq_left, cdX11_sheet, F1, m.o, m.a0, m.a1, i_cl (show s < 2147483648 by omega)]
        refine ⟨fun _ => ⟨vp_in_nI (by omega) (by omega), vp_in_nI (by omega) (by omega), ?_⟩, fun c3 => absurd (nI_pos' (by omega)) c3⟩
        have hO1 : sOff h (hset (hset h 53 (.inr (4, .inl (upd (a 0) s f)))) 54 (.inr (4, .inl (upd (a 1) s (nI j))))) 52 80 := (sOff.rf.set (by omega) (by omega)).set (by omega) (by omega)
        have m1 := (m.s0 (upd (a 0) s f)).s1 (upd (a 1) s (nI j))
        generalize hset (hset h 53 _) 54 _ = h1 at hO1 m1 ⊢
        have loop : ∀ q i (h' : aH) (l' : Nat → Nat → Int64), i + q = j → MH h' c (fset (fset a 0 (upd (a 0) s f)) 1 (upd (a 1) s (nI j))) l' → l' 2 = zL (l 2) (48 * s) i → sOff h h' 52 80 → A z 149 n 0 0 h' 55 [some (.ref 52), some (.int (nI s)), some (.int f), some (.int (nI j)), some (.int (nI i))] [] Q := by
          intro q
          induction q with
          | zero =>
            intro i h' l' hi m' hl hO
            obtain rfl : i = j := by omega
            refine go_ok okF1 (C := cdX11_sheet) (by rfl) [] 40 (by exact Nat.le_of_ble_eq_true rfl) ?_
            simp (maxSteps := 2000000) only [go, stp, inS, ↓reduceIte, Bool.false_eq_true, Nat.reduceLT, Nat.reduceEqDiff, Nat.reduceAdd, ldI, ldL, ldA, st1, st2, okS, List.getElem?_cons_zero, List.getElem?_cons_succ, List.length_cons, List.length_nil, List.set_cons_zero, List.set_cons_succ, callP, callF, popN, ct, Value.category, cI, List.getD_cons_zero, List.getD_cons_succ, and_self, and_true, true_and, Nat.zero_le, Nat.reduceLeDiff, Nat.add_zero, Nat.zero_add, List.nil_append, List.cons_append, Option.toList_some, Option.toList_none, List.append_nil, hset_ss, true_or, or_true, eq_self, beq_self_eq_true, List.drop_succ_cons, List.drop_zero, swT, swL, hset_ap, not_true_eq_false, not_false_eq_true, true_implies, false_implies, implies_true, Int32.reduceLE, Int32.reduceLT, Int32.reduceAdd, Int32.reduceSub, Int32.reduceOfInt, Int32.reduceToNatClampNeg, i10, i01, Nat.add_left_cancel_iff, Nat.left_eq_add, Nat.add_eq_left, cdX11_sheet, F1, (show nI i ≤ nI i from (i_le (by omega) (by omega)).mpr (by omega))]
            refine hq h' ⟨c, _, l', m', r.1, r.2.1, r.2.2.1, r.2.2.2.1, r.2.2.2.2.1, fun s' hs' => ?_, fun s' hs' hf' => ?_, fun s' i' hs' hf' hi' => ?_⟩ hO
            · show upd (a 0) s f s' = fset M.fm s f s'
              by_cases e : s' = s
              · subst e; rw [pk_us, fset_s]
              · rw [pk_un e, fset_n _ _ e]; exact r.2.2.2.2.2.1 s' hs'
            · show upd (a 1) s (nI i) s' = nI (fset M.sz s i s')
              by_cases e : s' = s
              · subst e; rw [pk_us, fset_s]
              · have hf' : ¬ fset M.fm s f s' = -1 := hf'
                rw [fset_n _ _ e] at hf'
                rw [pk_un e, fset_n _ _ e]; exact r.2.2.2.2.2.2.1 s' hs' hf'
            · show l' 2 (48 * s' + i') = fset M.I s (zrI (M.I s)) s' i'
              have hi' : i' < fset M.sz s i s' := hi'
              rw [hl]
              unfold zL
              by_cases e : s' = s
              · subst e; rw [fset_s] at hi' ⊢
                rw [if_pos (by omega)]; unfold zrI; rw [if_pos (by omega)]
              · have hf' : ¬ fset M.fm s f s' = -1 := hf'
                rw [fset_n _ _ e] at hf' hi' ⊢
                have := ok.sz s' hs'
                rw [if_neg (by omega)]; exact r.2.2.2.2.2.2.2 s' i' hs' hf' hi'
          | succ q ih =>
            intro i h' l' hi m' hl hO
            have e : ¬ nI j ≤ nI i := by rw [i_le (by omega) (by omega)]; omega
            refine go_ok okF1 (C := cdX11_sheet) (by rfl) [55] 40 (by exact Nat.le_of_ble_eq_true rfl) ?_
            simp (maxSteps := 2000000) only [go, stp, inS, ↓reduceIte, Bool.false_eq_true, Nat.reduceLT, Nat.reduceEqDiff, Nat.reduceAdd, ldI, ldL, ldA, st1, st2, okS, List.getElem?_cons_zero, List.getElem?_cons_succ, List.length_cons, List.length_nil, List.set_cons_zero, List.set_cons_succ, callP, callF, popN, ct, Value.category, cI, List.getD_cons_zero, List.getD_cons_succ, and_self, and_true, true_and, Nat.zero_le, Nat.reduceLeDiff, Nat.add_zero, Nat.zero_add, List.nil_append, List.cons_append, Option.toList_some, Option.toList_none, List.append_nil, hset_ss, true_or, or_true, eq_self, beq_self_eq_true, List.drop_succ_cons, List.drop_zero, swT, swL, hset_ap, not_true_eq_false, not_false_eq_true, true_implies, false_implies, implies_true, Int32.reduceLE, Int32.reduceLT, Int32.reduceAdd, Int32.reduceSub, Int32.reduceOfInt, Int32.reduceToNatClampNeg, i10, i01, Nat.add_left_cancel_iff, Nat.left_eq_add, Nat.add_eq_left, cdX11_sheet, F1, e, m'.o, m'.a2, ix48, i_cl (show 48 * s + i < 2147483648 by omega), nI_1]
            refine ⟨vp_in_nI (by omega) (by omega), ?_⟩
            refine ih (i + 1) _ _ (by omega) (m'.s2 _) ?_ (hO.set (by omega) (by omega))
            show vp_updL (l' 2) (48 * s + i) 0 = _
            rw [hl, zL_1]
        exact loop j 0 h1 l (by omega) m1 (zL_0 _ _).symm hO1
    · refine go_ok okF1 (C := cdX11_sheet) (by rfl) [25] 40 (by exact Nat.le_of_ble_eq_true rfl) ?_
      simp (maxSteps := 2000000) only [go, stp, inS, ↓reduceIte, Bool.false_eq_true, Nat.reduceLT, Nat.reduceEqDiff, Nat.reduceAdd, ldI, ldL, ldA, st1, st2, okS, List.getElem?_cons_zero, List.getElem?_cons_succ, List.length_cons, List.length_nil, List.set_cons_zero, List.set_cons_succ, callP, callF, popN, ct, Value.category, cI, List.getD_cons_zero, List.getD_cons_succ, and_self, and_true, true_and, Nat.zero_le, Nat.reduceLeDiff, Nat.add_zero, Nat.zero_add, List.nil_append, List.cons_append, Option.toList_some, Option.toList_none, List.append_nil, hset_ss, true_or, or_true, eq_self, beq_self_eq_true, List.drop_succ_cons, List.drop_zero, swT, swL, hset_ap, not_true_eq_false, not_false_eq_true, true_implies, false_implies, implies_true, Int32.reduceLE, Int32.reduceLT, Int32.reduceAdd, Int32.reduceSub, Int32.reduceOfInt, Int32.reduceToNatClampNeg, i10, i01, Nat.add_left_cancel_iff, Nat.left_eq_add, Nat.add_eq_left, cdX11_sheet, F1, eq_true hx, in03, eq_false hf]
      exact bad (fun q => hf q.2.1)
  · refine go_ok okF1 (C := cdX11_sheet) (by rfl) [25] 40 (by exact Nat.le_of_ble_eq_true rfl) ?_
    simp (maxSteps := 2000000) only [go, stp, inS, ↓reduceIte, Bool.false_eq_true, Nat.reduceLT, Nat.reduceEqDiff, Nat.reduceAdd, ldI, ldL, ldA, st1, st2, okS, List.getElem?_cons_zero, List.getElem?_cons_succ, List.length_cons, List.length_nil, List.set_cons_zero, List.set_cons_succ, callP, callF, popN, ct, Value.category, cI, List.getD_cons_zero, List.getD_cons_succ, and_self, and_true, true_and, Nat.zero_le, Nat.reduceLeDiff, Nat.add_zero, Nat.zero_add, List.nil_append, List.cons_append, Option.toList_some, Option.toList_none, List.append_nil, hset_ss, true_or, or_true, eq_self, beq_self_eq_true, List.drop_succ_cons, List.drop_zero, swT, swL, hset_ap, not_true_eq_false, not_false_eq_true, true_implies, false_implies, implies_true, Int32.reduceLE, Int32.reduceLT, Int32.reduceAdd, Int32.reduceSub, Int32.reduceOfInt, Int32.reduceToNatClampNeg, i10, i01, Nat.add_left_cancel_iff, Nat.left_eq_add, Nat.add_eq_left, cdX11_sheet, F1, eq_false hx]
    exact bad (fun q => hx q.1)
end MA
