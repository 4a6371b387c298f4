
/-! the model: which, and what is meant -/
section MN
variable {n : Nat} {h : aH} {Q : aQ} {M : MS} {c : Nat → Int32} {a : Nat → Nat → Int32} {l : Nat → Nat → Int64} {G L R : Nat → Int32} {N q : Nat}
theorem ld.c30 {v : Int32} {g : Nat → Int32} (h : ld c a G L R N) : ld (upd c 30 v) (fset a 31 g) G L R N := h
theorem mB_add {p : Nat → Bool} {r : Nat} (hr : r < 32) : mB (r + 1) p = (mB r p ||| (if p r = true then (1 : Int32) <<< (nI r &&& 31) else 0)) := b_ext fun i hi => by
  rw [b_or, b_mB _ _ (by omega) i hi, b_mB _ _ (by omega) i hi, b_ite, b_pw r hr i hi, b_0]
  by_cases e : i = r
  · subst e; cases p i <;> simp
  · by_cases e2 : i < r
    · simp [e, e2, show i < r + 1 by omega]
    · simp [e, e2, show ¬ i < r + 1 by omega]
set_option maxRecDepth 100000 in
set_option maxHeartbeats 400000 in
theorem D_meantNow (m : MH h c a l) (hL : ld c a G L R N) (hN : 0 < N) (h7 : c 7 = nI q) (h8 : q ≤ 8) (hq : ∀ h' v g, MH h' (upd c 30 v) (fset a 31 g) l → sOff h h' 52 80 → Q (some (.int (mB q (fun r => ev (bt 0) G N L R (a 8) r 0 == 1)))) n h') : Ok 190 [.ref 52] n h Q := by
  refine ok_of kMX11_meantNow kCX11_meantNow (Nat.le_of_ble_eq_true rfl) (fun z => ?_)
  change A z _ _ 0 0 _ 0 [some (.ref 52), none, none] [] _
  refine go_ok okF1 (C := cdX11_meantNow) (by rfl) [4] 40 (by exact Nat.le_of_ble_eq_true rfl) ?_
  simp (maxSteps := 2000000) only [go, stp, inS, ↓reduceIte, Bool.false_eq_true, Nat.reduceLT, Nat.reduceEqDiff, Nat.reduceAdd, ldI, ldL, ldA, st1, st2, okS, List.getElem?_cons_zero, List.getElem?_cons_succ, List.length_cons, List.length_nil, List.set_cons_zero, List.set_cons_succ, callP, callF, popN, ct, Value.category, cI, List.getD_cons_zero, List.getD_cons_succ, and_self, and_true, true_and, Nat.zero_le, Nat.reduceLeDiff, Nat.add_zero, Nat.zero_add, List.nil_append, List.cons_append, Option.toList_some, Option.toList_none, List.append_nil, hset_ss, true_or, or_true, eq_self, beq_self_eq_true, List.drop_succ_cons, List.drop_zero, swT, swL, hset_ap, not_true_eq_false, not_false_eq_true, true_implies, false_implies, implies_true, Int32.reduceLE, Int32.reduceLT, Int32.reduceAdd, Int32.reduceSub, Int32.reduceOfInt, Int32.reduceToNatClampNeg, i10, i01, Nat.add_left_cancel_iff, Nat.left_eq_add, Nat.add_eq_left, cdX11_meantNow, F1]
  have loop : ∀ w r h' v g, r + w = q → MH h' (upd c 30 v) (fset a 31 g) l → sOff h h' 52 80 → A z 190 n 0 0 h' 4 [some (.ref 52), some (.int (mB r (fun r => ev (bt 0) G N L R (a 8) r 0 == 1))), some (.int (nI r))] [] Q := by
    intro w
    induction w with
    | zero =>
      intro r h' v g hw m' hO
      obtain rfl : r = q := by omega
      refine go_ok okF1 (C := cdX11_meantNow) (by rfl) [] 40 (by exact Nat.le_of_ble_eq_true rfl) ?_
      simp (maxSteps := 2000000) only [go, stp, inS, ↓reduceIte, Bool.false_eq_true, Nat.reduceLT, Nat.reduceEqDiff, Nat.reduceAdd, ldI, ldL, ldA, st1, st2, okS, List.getElem?_cons_zero, List.getElem?_cons_succ, List.length_cons, List.length_nil, List.set_cons_zero, List.set_cons_succ, callP, callF, popN, ct, Value.category, cI, List.getD_cons_zero, List.getD_cons_succ, and_self, and_true, true_and, Nat.zero_le, Nat.reduceLeDiff, Nat.add_zero, Nat.zero_add, List.nil_append, List.cons_append, Option.toList_some, Option.toList_none, List.append_nil, hset_ss, true_or, or_true, eq_self, beq_self_eq_true, List.drop_succ_cons, List.drop_zero, swT, swL, hset_ap, not_true_eq_false, not_false_eq_true, true_implies, false_implies, implies_true, Int32.reduceLE, Int32.reduceLT, Int32.reduceAdd, Int32.reduceSub, Int32.reduceOfInt, Int32.reduceToNatClampNeg, i10, i01, Nat.add_left_cancel_iff, Nat.left_eq_add, Nat.add_eq_left, cdX11_meantNow, F1, m'.o, (show upd c 30 v 7 = nI r from h7), (show nI r ≤ nI r from (i_le (by omega) (by omega)).mpr (by omega))]
      exact hq h' v g m' hO
    | succ w ih =>
      intro r h' v g hw m' hO
      have e : ¬ nI q ≤ nI r := by rw [i_le (by omega) (by omega)]; omega
      refine go_ok okF1 (C := cdX11_meantNow) (by rfl) [] 40 (by exact Nat.le_of_ble_eq_true rfl) ?_
      simp (maxSteps := 2000000) only [go, stp, inS, ↓reduceIte, Bool.false_eq_true, Nat.reduceLT, Nat.reduceEqDiff, Nat.reduceAdd, ldI, ldL, ldA, st1, st2, okS, List.getElem?_cons_zero, List.getElem?_cons_succ, List.length_cons, List.length_nil, List.set_cons_zero, List.set_cons_succ, callP, callF, popN, ct, Value.category, cI, List.getD_cons_zero, List.getD_cons_succ, and_self, and_true, true_and, Nat.zero_le, Nat.reduceLeDiff, Nat.add_zero, Nat.zero_add, List.nil_append, List.cons_append, Option.toList_some, Option.toList_none, List.append_nil, hset_ss, true_or, or_true, eq_self, beq_self_eq_true, List.drop_succ_cons, List.drop_zero, swT, swL, hset_ap, not_true_eq_false, not_false_eq_true, true_implies, false_implies, implies_true, Int32.reduceLE, Int32.reduceLT, Int32.reduceAdd, Int32.reduceSub, Int32.reduceOfInt, Int32.reduceToNatClampNeg, i10, i01, Nat.add_left_cancel_iff, Nat.left_eq_add, Nat.add_eq_left, cdX11_meantNow, F1, m'.o, (show upd c 30 v 7 = nI q from h7), e]
      refine D_goes (eng := false) m' hL.c30 (show r < 8 by omega) (fun h2 v2 g2 m2 hg hf o2 => ?_)
      rw [updupd, fsetset] at m2
      have e0 : g2 0 = nI (ev (bt 0) G N L R (a 8) r 0) := hg 0 hN
      have nx := ih (r + 1) h2 v2 g2 (by omega) m2 (hO.tr o2)
      rw [mB_add (by omega)] at nx
      have hle : ev (bt 0) G N L R (a 8) r 0 ≤ 2 := ev_le _ _
      by_cases e1 : ev (bt 0) G N L R (a 8) r 0 = 1
      · rw [e1] at e0
        rw [if_pos (by rw [e1]; rfl)] at nx
        refine go_ok okF1 (C := cdX11_meantNow) (by rfl) [4] 40 (by exact Nat.le_of_ble_eq_true rfl) ?_
        simp (maxSteps := 2000000) only [go, stp, inS, ↓reduceIte, Bool.false_eq_true, Nat.reduceLT, Nat.reduceEqDiff, Nat.reduceAdd, ldI, ldL, ldA, st1, st2, okS, List.getElem?_cons_zero, List.getElem?_cons_succ, List.length_cons, List.length_nil, List.set_cons_zero, List.set_cons_succ, callP, callF, popN, ct, Value.category, cI, List.getD_cons_zero, List.getD_cons_succ, and_self, and_true, true_and, Nat.zero_le, Nat.reduceLeDiff, Nat.add_zero, Nat.zero_add, List.nil_append, List.cons_append, Option.toList_some, Option.toList_none, List.append_nil, hset_ss, true_or, or_true, eq_self, beq_self_eq_true, List.drop_succ_cons, List.drop_zero, swT, swL, hset_ap, not_true_eq_false, not_false_eq_true, true_implies, false_implies, implies_true, Int32.reduceLE, Int32.reduceLT, Int32.reduceAdd, Int32.reduceSub, Int32.reduceOfInt, Int32.reduceToNatClampNeg, i10, i01, Nat.add_left_cancel_iff, Nat.left_eq_add, Nat.add_eq_left, cdX11_meantNow, F1, m2.o, m2.a31, (show fset a 31 g2 31 0 = 1 from e0), nI_1]
        exact ⟨vp_in_nI (n := 0) (by omega) (by omega), nx⟩
      · have e2 : ¬ g2 0 = 1 := by rw [e0]; exact fun q => e1 ((i_eq (b := 1) (by omega) (by omega)).mp q)
        rw [if_neg (by simpa using e1)] at nx
        refine go_ok okF1 (C := cdX11_meantNow) (by rfl) [4] 40 (by exact Nat.le_of_ble_eq_true rfl) ?_
        simp (maxSteps := 2000000) only [go, stp, inS, ↓reduceIte, Bool.false_eq_true, Nat.reduceLT, Nat.reduceEqDiff, Nat.reduceAdd, ldI, ldL, ldA, st1, st2, okS, List.getElem?_cons_zero, List.getElem?_cons_succ, List.length_cons, List.length_nil, List.set_cons_zero, List.set_cons_succ, callP, callF, popN, ct, Value.category, cI, List.getD_cons_zero, List.getD_cons_succ, and_self, and_true, true_and, Nat.zero_le, Nat.reduceLeDiff, Nat.add_zero, Nat.zero_add, List.nil_append, List.cons_append, Option.toList_some, Option.toList_none, List.append_nil, hset_ss, true_or, or_true, eq_self, beq_self_eq_true, List.drop_succ_cons, List.drop_zero, swT, swL, hset_ap, not_true_eq_false, not_false_eq_true, true_implies, false_implies, implies_true, Int32.reduceLE, Int32.reduceLT, Int32.reduceAdd, Int32.reduceSub, Int32.reduceOfInt, Int32.reduceToNatClampNeg, i10, i01, Nat.add_left_cancel_iff, Nat.left_eq_add, Nat.add_eq_left, cdX11_meantNow, F1, m2.o, m2.a31, (show ¬ fset a 31 g2 31 0 = 1 from e2), nI_1]
        exact ⟨vp_in_nI (n := 0) (by omega) (by omega), nx⟩
  exact loop q 0 h (c 30) (a 31) (by omega) (by rw [upd_me, fset_me]; exact m) sOff.rf
theorem same_sy (f : Nat → Int32) (a b : Nat) : sameB f a b = sameB f b a := by
  rw [Bool.eq_iff_iff]; unfold sameB; simp only [Bool.and_eq_true, beq_iff_eq]
  exact ⟨fun w => ⟨⟨w.1.1.symm, w.1.2.symm⟩, w.2.symm⟩, fun w => ⟨⟨w.1.1.symm, w.1.2.symm⟩, w.2.symm⟩⟩
def fiQ (G L R f : Nat → Int32) (N q : Nat) (d : Nat → Bool) (i : Nat) : Prop := (∃ k, k < N ∧ ∃ r, r < q ∧ FR G N L R f r (ev d G N L R f r) k i) ∨ (i = 7 ∧ ∃ r, r < q ∧ yB (fun r => ev d G N L R f r 0) (alm q) r = true ∧ rpB f (fun r => ev d G N L R f r 0) (alm q) r = true)
set_option maxRecDepth 100000 in
set_option maxHeartbeats 400000 in
theorem D_whichNow (m : MH h c a l) (hL : ld c a G L R N) (hN : 0 < N) (h7 : c 7 = nI q) (h8 : q ≤ 8) (hq : ∀ h' v g, MH h' (upd c 30 v) (fset a 31 g) l → (∀ i, i < 32 → (bt v i = true ↔ (bt (c 28) i = true ∧ fiQ G L R (a 8) N q (bt (c 28 &&& c 29)) i))) → sOff h h' 52 80 → Q (some (.int (anM (bt (c 28 &&& c 29)) (a 8) q (fun r => ev (bt (c 28 &&& c 29)) G N L R (a 8) r 0) (alm q)))) n h') : Ok 192 [.ref 52] n h Q := by
  refine ok_of kMX11_whichNow kCX11_whichNow (Nat.le_of_ble_eq_true rfl) (fun z => ?_)
  change A z _ _ 0 0 _ 0 [some (.ref 52), none, none, none, none] [] _
  refine go_ok okF1 (C := cdX11_whichNow) (by rfl) [9] 40 (by exact Nat.le_of_ble_eq_true rfl) ?_
  simp (maxSteps := 2000000) only [go, stp, inS, ↓reduceIte, Bool.false_eq_true, Nat.reduceLT, Nat.reduceEqDiff, Nat.reduceAdd, ldI, ldL, ldA, st1, st2, okS, List.getElem?_cons_zero, List.getElem?_cons_succ, List.length_cons, List.length_nil, List.set_cons_zero, List.set_cons_succ, callP, callF, popN, ct, Value.category, cI, List.getD_cons_zero, List.getD_cons_succ, and_self, and_true, true_and, Nat.zero_le, Nat.reduceLeDiff, Nat.add_zero, Nat.zero_add, List.nil_append, List.cons_append, Option.toList_some, Option.toList_none, List.append_nil, hset_ss, true_or, or_true, eq_self, beq_self_eq_true, List.drop_succ_cons, List.drop_zero, swT, swL, hset_ap, not_true_eq_false, not_false_eq_true, true_implies, false_implies, implies_true, Int32.reduceLE, Int32.reduceLT, Int32.reduceAdd, Int32.reduceSub, Int32.reduceOfInt, Int32.reduceToNatClampNeg, i10, i01, Nat.add_left_cancel_iff, Nat.left_eq_add, Nat.add_eq_left, cdX11_whichNow, F1, m.o]
  generalize hd : bt (c 28 &&& c 29) = d at hq
  generalize hV : (fun r => ev d G N L R (a 8) r 0) = V at hq
  have yb : ∀ r, r < q → yB V (alm q) r = (V r == 1) := fun r hr => by unfold yB; rw [b_alm (by omega) (by omega)]; simp [hr]
  generalize hbits : mB q (fun r => V r == 1) = bits
  have bb : ∀ r, r < q → bt bits r = (V r == 1) := fun r hr => by rw [← hbits, b_mB _ _ (by omega) r (by omega)]; simp [hr]
  -- the rows that are out
  have fin : ∀ h' v g o3 o4, MH h' (upd c 30 v) (fset a 31 g) l → (∀ i, i < 32 → (bt v i = true ↔ (bt (c 28) i = true ∧ fiQ G L R (a 8) N q d i))) → sOff h h' 52 80 → A z 192 n 0 0 h' 130 [some (.ref 52), some (.int bits), some (.int (mB q (fun r => d 7 && (V r == 1 && rpB (a 8) V (alm q) r)))), o3, o4] [] Q := by
    intro h' v g o3 o4 m' hf hO
    refine go_ok okF1 (C := cdX11_whichNow) (by rfl) [] 40 (by exact Nat.le_of_ble_eq_true rfl) ?_
    simp (maxSteps := 2000000) only [go, stp, inS, ↓reduceIte, Bool.false_eq_true, Nat.reduceLT, Nat.reduceEqDiff, Nat.reduceAdd, ldI, ldL, ldA, st1, st2, okS, List.getElem?_cons_zero, List.getElem?_cons_succ, List.length_cons, List.length_nil, List.set_cons_zero, List.set_cons_succ, callP, callF, popN, ct, Value.category, cI, List.getD_cons_zero, List.getD_cons_succ, and_self, and_true, true_and, Nat.zero_le, Nat.reduceLeDiff, Nat.add_zero, Nat.zero_add, List.nil_append, List.cons_append, Option.toList_some, Option.toList_none, List.append_nil, hset_ss, true_or, or_true, eq_self, beq_self_eq_true, List.drop_succ_cons, List.drop_zero, swT, swL, hset_ap, not_true_eq_false, not_false_eq_true, true_implies, false_implies, implies_true, Int32.reduceLE, Int32.reduceLT, Int32.reduceAdd, Int32.reduceSub, Int32.reduceOfInt, Int32.reduceToNatClampNeg, i10, i01, Nat.add_left_cancel_iff, Nat.left_eq_add, Nat.add_eq_left, cdX11_whichNow, F1]
    have e : (bits &&& (mB q (fun r => d 7 && (V r == 1 && rpB (a 8) V (alm q) r)) ^^^ (-1))) = anM d (a 8) q V (alm q) := by
      unfold anM
      rw [← hbits]
      refine b_ext fun i hi => ?_
      rw [b_and, b_not _ hi, b_mB _ _ (by omega) i hi, b_mB _ _ (by omega) i hi, b_mB _ _ (by omega) i hi]
      unfold anB
      by_cases hr : i < q
      · rw [yb i hr]
        simp only [hr, decide_true, Bool.true_and]
        cases d 7 <;> cases (V i == 1) <;> cases rpB (a 8) V (alm q) i <;> rfl
      · simp [hr]
    rw [e]
    exact hq h' v g m' hf hO
  generalize hpm : (fun r => d 7 && (V r == 1 && rpB (a 8) V (alm q) r)) = pm at fin
  have out2 : ∀ w r h' v g o4, r + w = q → MH h' (upd c 30 v) (fset a 31 g) l → (∀ i, i < 32 → (bt v i = true ↔ (bt (c 28) i = true ∧ ((∃ k, k < N ∧ ∃ r, r < q ∧ FR G N L R (a 8) r (ev d G N L R (a 8) r) k i) ∨ (i = 7 ∧ ∃ r', r' < r ∧ yB V (alm q) r' = true ∧ rpB (a 8) V (alm q) r' = true))))) → sOff h h' 52 80 → A z 192 n 0 0 h' 53 [some (.ref 52), some (.int bits), some (.int (mB r pm)), some (.int (nI r)), o4] [] Q := by
    intro w
    induction w with
    | zero =>
      intro r h' v g o4 hw m' hf hO
      obtain rfl : r = q := by omega
      refine go_ok okF1 (C := cdX11_whichNow) (by rfl) [130] 40 (by exact Nat.le_of_ble_eq_true rfl) ?_
      simp (maxSteps := 2000000) only [go, stp, inS, ↓reduceIte, Bool.false_eq_true, Nat.reduceLT, Nat.reduceEqDiff, Nat.reduceAdd, ldI, ldL, ldA, st1, st2, okS, List.getElem?_cons_zero, List.getElem?_cons_succ, List.length_cons, List.length_nil, List.set_cons_zero, List.set_cons_succ, callP, callF, popN, ct, Value.category, cI, List.getD_cons_zero, List.getD_cons_succ, and_self, and_true, true_and, Nat.zero_le, Nat.reduceLeDiff, Nat.add_zero, Nat.zero_add, List.nil_append, List.cons_append, Option.toList_some, Option.toList_none, List.append_nil, hset_ss, true_or, or_true, eq_self, beq_self_eq_true, List.drop_succ_cons, List.drop_zero, swT, swL, hset_ap, not_true_eq_false, not_false_eq_true, true_implies, false_implies, implies_true, Int32.reduceLE, Int32.reduceLT, Int32.reduceAdd, Int32.reduceSub, Int32.reduceOfInt, Int32.reduceToNatClampNeg, i10, i01, Nat.add_left_cancel_iff, Nat.left_eq_add, Nat.add_eq_left, cdX11_whichNow, F1, m'.o, (show upd c 30 v 7 = nI r from h7), (show nI r ≤ nI r from (i_le (by omega) (by omega)).mpr (by omega))]
      exact fin h' v g _ _ m' (fun i hi => by rw [hf i hi]; unfold fiQ; rw [hV]) hO
    | succ w ih =>
      intro r h' v g o4 hw m' hf hO
      have e : ¬ nI q ≤ nI r := by rw [i_le (by omega) (by omega)]; omega
      have inner : ∀ u o h' v g, o + u = r → MH h' (upd c 30 v) (fset a 31 g) l → (∀ i, i < 32 → (bt v i = true ↔ (bt (c 28) i = true ∧ ((∃ k, k < N ∧ ∃ r, r < q ∧ FR G N L R (a 8) r (ev d G N L R (a 8) r) k i) ∨ (i = 7 ∧ ((∃ r', r' < r ∧ yB V (alm q) r' = true ∧ rpB (a 8) V (alm q) r' = true) ∨ (V r == 1 && anyB o (fun o => yB V (alm q) o && sameB (a 8) o r)) = true)))))) → sOff h h' 52 80 → A z 192 n 0 0 h' 64 [some (.ref 52), some (.int bits), some (.int (mB r pm ||| (if (d 7 && (V r == 1 && anyB o (fun o => yB V (alm q) o && sameB (a 8) o r))) = true then (1 : Int32) <<< (nI r &&& 31) else 0))), some (.int (nI r)), some (.int (nI o))] [] Q := by
        intro u
        induction u with
        | zero =>
          intro o h' v g ho m' hf hO
          obtain rfl : o = r := by omega
          refine go_ok okF1 (C := cdX11_whichNow) (by rfl) [53] 40 (by exact Nat.le_of_ble_eq_true rfl) ?_
          simp (maxSteps := 2000000) only [go, stp, inS, ↓reduceIte, Bool.false_eq_true, Nat.reduceLT, Nat.reduceEqDiff, Nat.reduceAdd, ldI, ldL, ldA, st1, st2, okS, List.getElem?_cons_zero, List.getElem?_cons_succ, List.length_cons, List.length_nil, List.set_cons_zero, List.set_cons_succ, callP, callF, popN, ct, Value.category, cI, List.getD_cons_zero, List.getD_cons_succ, and_self, and_true, true_and, Nat.zero_le, Nat.reduceLeDiff, Nat.add_zero, Nat.zero_add, List.nil_append, List.cons_append, Option.toList_some, Option.toList_none, List.append_nil, hset_ss, true_or, or_true, eq_self, beq_self_eq_true, List.drop_succ_cons, List.drop_zero, swT, swL, hset_ap, not_true_eq_false, not_false_eq_true, true_implies, false_implies, implies_true, Int32.reduceLE, Int32.reduceLT, Int32.reduceAdd, Int32.reduceSub, Int32.reduceOfInt, Int32.reduceToNatClampNeg, i10, i01, Nat.add_left_cancel_iff, Nat.left_eq_add, Nat.add_eq_left, cdX11_whichNow, F1, (show nI o ≤ nI o from (i_le (by omega) (by omega)).mpr (by omega)), nI_1]
          have nx := ih (o + 1) h' v g (some (.int (nI o))) (by omega) m' (fun i hi => by
            rw [hf i hi]
            refine and_congr_right (fun _ => or_congr_right (and_congr_right (fun _ => ?_)))
            constructor
            · rintro (⟨r', q1, q2⟩ | q1)
              · exact ⟨r', by omega, q2⟩
              · rw [Bool.and_eq_true] at q1
                exact ⟨o, by omega, by rw [yb o (by omega)]; exact q1.1, q1.2⟩
            · rintro ⟨r', q1, q2, q3⟩
              by_cases er : r' = o
              · subst er
                right
                rw [yb r' (by omega)] at q2
                rw [Bool.and_eq_true]; exact ⟨q2, q3⟩
              · exact Or.inl ⟨r', by omega, q2, q3⟩) hO
          rw [mB_add (by omega)] at nx
          have ep : pm o = (d 7 && (V o == 1 && anyB o (fun o' => yB V (alm q) o' && sameB (a 8) o' o))) := by rw [← hpm]; rfl
          rw [ep] at nx
          exact nx
        | succ u ihu =>
          intro o h' v g ho m' hf hO
          have e2 : ¬ nI r ≤ nI o := by rw [i_le (by omega) (by omega)]; omega
          have yo : yB V (alm q) o = (V o == 1) := yb o (by omega)
          have nxt := fun h2 v2 g2 => ihu (o + 1) h2 v2 g2 (by omega)
          rw [anyB, yo] at nxt
          have stay : (V r == 1 && (anyB o (fun o => yB V (alm q) o && sameB (a 8) o r) || (V o == 1 && sameB (a 8) o r))) = (V r == 1 && anyB o (fun o => yB V (alm q) o && sameB (a 8) o r)) → A z 192 n 0 0 h' 118 [some (.ref 52), some (.int bits), some (.int (mB r pm ||| (if (d 7 && (V r == 1 && anyB o (fun o => yB V (alm q) o && sameB (a 8) o r))) = true then (1 : Int32) <<< (nI r &&& 31) else 0))), some (.int (nI r)), some (.int (nI o))] [] Q := fun hE => by
            refine go_ok okF1 (C := cdX11_whichNow) (by rfl) [64] 40 (by exact Nat.le_of_ble_eq_true rfl) ?_
            simp (maxSteps := 2000000) only [go, stp, inS, ↓reduceIte, Bool.false_eq_true, Nat.reduceLT, Nat.reduceEqDiff, Nat.reduceAdd, ldI, ldL, ldA, st1, st2, okS, List.getElem?_cons_zero, List.getElem?_cons_succ, List.length_cons, List.length_nil, List.set_cons_zero, List.set_cons_succ, callP, callF, popN, ct, Value.category, cI, List.getD_cons_zero, List.getD_cons_succ, and_self, and_true, true_and, Nat.zero_le, Nat.reduceLeDiff, Nat.add_zero, Nat.zero_add, List.nil_append, List.cons_append, Option.toList_some, Option.toList_none, List.append_nil, hset_ss, true_or, or_true, eq_self, beq_self_eq_true, List.drop_succ_cons, List.drop_zero, swT, swL, hset_ap, not_true_eq_false, not_false_eq_true, true_implies, false_implies, implies_true, Int32.reduceLE, Int32.reduceLT, Int32.reduceAdd, Int32.reduceSub, Int32.reduceOfInt, Int32.reduceToNatClampNeg, i10, i01, Nat.add_left_cancel_iff, Nat.left_eq_add, Nat.add_eq_left, cdX11_whichNow, F1, nI_1]
            have nx := nxt h' v g m'
            rw [hE] at nx
            exact nx hf hO
          generalize hout : (mB r pm ||| (if (d 7 && (V r == 1 && anyB o (fun o => yB V (alm q) o && sameB (a 8) o r))) = true then (1 : Int32) <<< (nI r &&& 31) else 0)) = out0 at stay ⊢
          by_cases b1 : (V r == 1) = true
          · by_cases b2 : (V o == 1) = true
            · refine go_ok okF1 (C := cdX11_whichNow) (by rfl) [118] 60 (by exact Nat.le_of_ble_eq_true rfl) ?_
              simp (maxSteps := 2000000) only [go, stp, inS, ↓reduceIte, Bool.false_eq_true, Nat.reduceLT, Nat.reduceEqDiff, Nat.reduceAdd, ldI, ldL, ldA, st1, st2, okS, List.getElem?_cons_zero, List.getElem?_cons_succ, List.length_cons, List.length_nil, List.set_cons_zero, List.set_cons_succ, callP, callF, popN, ct, Value.category, cI, List.getD_cons_zero, List.getD_cons_succ, and_self, and_true, true_and, Nat.zero_le, Nat.reduceLeDiff, Nat.add_zero, Nat.zero_add, List.nil_append, List.cons_append, Option.toList_some, Option.toList_none, List.append_nil, hset_ss, true_or, or_true, eq_self, beq_self_eq_true, List.drop_succ_cons, List.drop_zero, swT, swL, hset_ap, not_true_eq_false, not_false_eq_true, true_implies, false_implies, implies_true, Int32.reduceLE, Int32.reduceLT, Int32.reduceAdd, Int32.reduceSub, Int32.reduceOfInt, Int32.reduceToNatClampNeg, i10, i01, Nat.add_left_cancel_iff, Nat.left_eq_add, Nat.add_eq_left, cdX11_whichNow, F1, e2, b_ask _ (show r < 32 by omega), b_ask _ (show o < 32 by omega), bb r (show r < q by omega), bb o (show o < q by omega), b1, b2, m'.o]
              refine D_like m' (show r < 8 by omega) (show o < 8 by omega) ?_
              rw [show sameB (fset a 31 g 8) r o = sameB (a 8) o r from same_sy _ _ _]
              by_cases b3 : sameB (a 8) o r = true
              · rw [if_pos b3]
                refine go_ok okF1 (C := cdX11_whichNow) (by rfl) [118] 60 (by exact Nat.le_of_ble_eq_true rfl) ?_
                simp (maxSteps := 2000000) only [go, stp, inS, ↓reduceIte, Bool.false_eq_true, Nat.reduceLT, Nat.reduceEqDiff, Nat.reduceAdd, ldI, ldL, ldA, st1, st2, okS, List.getElem?_cons_zero, List.getElem?_cons_succ, List.length_cons, List.length_nil, List.set_cons_zero, List.set_cons_succ, callP, callF, popN, ct, Value.category, cI, List.getD_cons_zero, List.getD_cons_succ, and_self, and_true, true_and, Nat.zero_le, Nat.reduceLeDiff, Nat.add_zero, Nat.zero_add, List.nil_append, List.cons_append, Option.toList_some, Option.toList_none, List.append_nil, hset_ss, true_or, or_true, eq_self, beq_self_eq_true, List.drop_succ_cons, List.drop_zero, swT, swL, hset_ap, not_true_eq_false, not_false_eq_true, true_implies, false_implies, implies_true, Int32.reduceLE, Int32.reduceLT, Int32.reduceAdd, Int32.reduceSub, Int32.reduceOfInt, Int32.reduceToNatClampNeg, i10, i01, Nat.add_left_cancel_iff, Nat.left_eq_add, Nat.add_eq_left, cdX11_whichNow, F1, m'.o]
                refine D_done m' (i := 7) (by omega) (fun h2 v2 m2 f2 o2 => ?_)
                rw [updupd] at m2
                have nx := nxt h2 v2 g m2
                rw [b1, b2, b3] at nx
                simp only [Bool.and_self, Bool.or_true, Bool.and_true, or_true, and_true] at nx
                have nx := nx (fun i hi => by
                  rw [f2 i hi]
                  show (bt v i = true ∨ (true = true ∧ bt (c 28) i = true ∧ i = 7)) ↔ _
                  rw [hf i hi]
                  constructor
                  · rintro (⟨q1, q2 | q2⟩ | ⟨-, q1, q2⟩)
                    · exact ⟨q1, Or.inl q2⟩
                    · exact ⟨q1, Or.inr q2.1⟩
                    · exact ⟨q1, Or.inr q2⟩
                  · rintro ⟨q1, q2 | q2⟩
                    · exact Or.inl ⟨q1, Or.inl q2⟩
                    · exact Or.inr ⟨rfl, q1, q2⟩) (hO.tr o2)
                have hd7 : bt (upd c 30 v 28 &&& upd c 30 v 29) 7 = d 7 := by rw [← hd]; rfl
                rw [hd7]
                by_cases d7 : d 7 = true
                · rw [if_pos d7]
                  rw [if_pos d7] at nx
                  refine go_ok okF1 (C := cdX11_whichNow) (by rfl) [64] 60 (by exact Nat.le_of_ble_eq_true rfl) ?_
                  simp (maxSteps := 2000000) only [go, stp, inS, ↓reduceIte, Bool.false_eq_true, Nat.reduceLT, Nat.reduceEqDiff, Nat.reduceAdd, ldI, ldL, ldA, st1, st2, okS, List.getElem?_cons_zero, List.getElem?_cons_succ, List.length_cons, List.length_nil, List.set_cons_zero, List.set_cons_succ, callP, callF, popN, ct, Value.category, cI, List.getD_cons_zero, List.getD_cons_succ, and_self, and_true, true_and, Nat.zero_le, Nat.reduceLeDiff, Nat.add_zero, Nat.zero_add, List.nil_append, List.cons_append, Option.toList_some, Option.toList_none, List.append_nil, hset_ss, true_or, or_true, eq_self, beq_self_eq_true, List.drop_succ_cons, List.drop_zero, swT, swL, hset_ap, not_true_eq_false, not_false_eq_true, true_implies, false_implies, implies_true, Int32.reduceLE, Int32.reduceLT, Int32.reduceAdd, Int32.reduceSub, Int32.reduceOfInt, Int32.reduceToNatClampNeg, i10, i01, Nat.add_left_cancel_iff, Nat.left_eq_add, Nat.add_eq_left, cdX11_whichNow, F1, nI_1]
                  have e9 : out0 ||| ((1 : Int32) <<< (nI r &&& 31)) = mB r pm ||| ((1 : Int32) <<< (nI r &&& 31)) := b_ext fun t ht => by
                    rw [← hout, b_or, b_or, b_or, b_ite, b_0]; split <;> cases bt (mB r pm) t <;> cases bt ((1 : Int32) <<< (nI r &&& 31)) t <;> rfl
                  rw [e9]
                  exact nx
                · rw [if_neg d7]
                  rw [if_neg d7] at nx
                  refine go_ok okF1 (C := cdX11_whichNow) (by rfl) [64] 60 (by exact Nat.le_of_ble_eq_true rfl) ?_
                  simp (maxSteps := 2000000) only [go, stp, inS, ↓reduceIte, Bool.false_eq_true, Nat.reduceLT, Nat.reduceEqDiff, Nat.reduceAdd, ldI, ldL, ldA, st1, st2, okS, List.getElem?_cons_zero, List.getElem?_cons_succ, List.length_cons, List.length_nil, List.set_cons_zero, List.set_cons_succ, callP, callF, popN, ct, Value.category, cI, List.getD_cons_zero, List.getD_cons_succ, and_self, and_true, true_and, Nat.zero_le, Nat.reduceLeDiff, Nat.add_zero, Nat.zero_add, List.nil_append, List.cons_append, Option.toList_some, Option.toList_none, List.append_nil, hset_ss, true_or, or_true, eq_self, beq_self_eq_true, List.drop_succ_cons, List.drop_zero, swT, swL, hset_ap, not_true_eq_false, not_false_eq_true, true_implies, false_implies, implies_true, Int32.reduceLE, Int32.reduceLT, Int32.reduceAdd, Int32.reduceSub, Int32.reduceOfInt, Int32.reduceToNatClampNeg, i10, i01, Nat.add_left_cancel_iff, Nat.left_eq_add, Nat.add_eq_left, cdX11_whichNow, F1, nI_1]
                  have e9 : out0 ||| (0 : Int32) = mB r pm ||| (0 : Int32) := by
                    rw [← hout, Bool.eq_false_iff.mpr d7, Bool.false_and, if_neg (by decide)]
                    exact b_ext fun t ht => by rw [b_or, b_or, b_0]; cases bt (mB r pm) t <;> rfl
                  rw [e9]
                  exact nx
              · rw [if_neg b3]
                refine go_ok okF1 (C := cdX11_whichNow) (by rfl) [118] 60 (by exact Nat.le_of_ble_eq_true rfl) ?_
                simp (maxSteps := 2000000) only [go, stp, inS, ↓reduceIte, Bool.false_eq_true, Nat.reduceLT, Nat.reduceEqDiff, Nat.reduceAdd, ldI, ldL, ldA, st1, st2, okS, List.getElem?_cons_zero, List.getElem?_cons_succ, List.length_cons, List.length_nil, List.set_cons_zero, List.set_cons_succ, callP, callF, popN, ct, Value.category, cI, List.getD_cons_zero, List.getD_cons_succ, and_self, and_true, true_and, Nat.zero_le, Nat.reduceLeDiff, Nat.add_zero, Nat.zero_add, List.nil_append, List.cons_append, Option.toList_some, Option.toList_none, List.append_nil, hset_ss, true_or, or_true, eq_self, beq_self_eq_true, List.drop_succ_cons, List.drop_zero, swT, swL, hset_ap, not_true_eq_false, not_false_eq_true, true_implies, false_implies, implies_true, Int32.reduceLE, Int32.reduceLT, Int32.reduceAdd, Int32.reduceSub, Int32.reduceOfInt, Int32.reduceToNatClampNeg, i10, i01, Nat.add_left_cancel_iff, Nat.left_eq_add, Nat.add_eq_left, cdX11_whichNow, F1]
                exact stay (by rw [Bool.eq_false_iff.mpr b3, Bool.and_false, Bool.or_false])
            · refine go_ok okF1 (C := cdX11_whichNow) (by rfl) [118] 60 (by exact Nat.le_of_ble_eq_true rfl) ?_
              simp (maxSteps := 2000000) only [go, stp, inS, ↓reduceIte, Bool.false_eq_true, Nat.reduceLT, Nat.reduceEqDiff, Nat.reduceAdd, ldI, ldL, ldA, st1, st2, okS, List.getElem?_cons_zero, List.getElem?_cons_succ, List.length_cons, List.length_nil, List.set_cons_zero, List.set_cons_succ, callP, callF, popN, ct, Value.category, cI, List.getD_cons_zero, List.getD_cons_succ, and_self, and_true, true_and, Nat.zero_le, Nat.reduceLeDiff, Nat.add_zero, Nat.zero_add, List.nil_append, List.cons_append, Option.toList_some, Option.toList_none, List.append_nil, hset_ss, true_or, or_true, eq_self, beq_self_eq_true, List.drop_succ_cons, List.drop_zero, swT, swL, hset_ap, not_true_eq_false, not_false_eq_true, true_implies, false_implies, implies_true, Int32.reduceLE, Int32.reduceLT, Int32.reduceAdd, Int32.reduceSub, Int32.reduceOfInt, Int32.reduceToNatClampNeg, i10, i01, Nat.add_left_cancel_iff, Nat.left_eq_add, Nat.add_eq_left, cdX11_whichNow, F1, e2, b_ask _ (show r < 32 by omega), b_ask _ (show o < 32 by omega), bb r (show r < q by omega), bb o (show o < q by omega), b1, b2]
              exact stay (by rw [Bool.eq_false_iff.mpr b2, Bool.false_and, Bool.or_false])
          · refine go_ok okF1 (C := cdX11_whichNow) (by rfl) [118] 60 (by exact Nat.le_of_ble_eq_true rfl) ?_
            simp (maxSteps := 2000000) only [go, stp, inS, ↓reduceIte, Bool.false_eq_true, Nat.reduceLT, Nat.reduceEqDiff, Nat.reduceAdd, ldI, ldL, ldA, st1, st2, okS, List.getElem?_cons_zero, List.getElem?_cons_succ, List.length_cons, List.length_nil, List.set_cons_zero, List.set_cons_succ, callP, callF, popN, ct, Value.category, cI, List.getD_cons_zero, List.getD_cons_succ, and_self, and_true, true_and, Nat.zero_le, Nat.reduceLeDiff, Nat.add_zero, Nat.zero_add, List.nil_append, List.cons_append, Option.toList_some, Option.toList_none, List.append_nil, hset_ss, true_or, or_true, eq_self, beq_self_eq_true, List.drop_succ_cons, List.drop_zero, swT, swL, hset_ap, not_true_eq_false, not_false_eq_true, true_implies, false_implies, implies_true, Int32.reduceLE, Int32.reduceLT, Int32.reduceAdd, Int32.reduceSub, Int32.reduceOfInt, Int32.reduceToNatClampNeg, i10, i01, Nat.add_left_cancel_iff, Nat.left_eq_add, Nat.add_eq_left, cdX11_whichNow, F1, e2, b_ask _ (show r < 32 by omega), bb r (show r < q by omega), b1]
            exact stay (by rw [Bool.eq_false_iff.mpr b1, Bool.false_and, Bool.false_and])
      refine go_ok okF1 (C := cdX11_whichNow) (by rfl) [64] 40 (by exact Nat.le_of_ble_eq_true rfl) ?_
      simp (maxSteps := 2000000) only [go, stp, inS, ↓reduceIte, Bool.false_eq_true, Nat.reduceLT, Nat.reduceEqDiff, Nat.reduceAdd, ldI, ldL, ldA, st1, st2, okS, List.getElem?_cons_zero, List.getElem?_cons_succ, List.length_cons, List.length_nil, List.set_cons_zero, List.set_cons_succ, callP, callF, popN, ct, Value.category, cI, List.getD_cons_zero, List.getD_cons_succ, and_self, and_true, true_and, Nat.zero_le, Nat.reduceLeDiff, Nat.add_zero, Nat.zero_add, List.nil_append, List.cons_append, Option.toList_some, Option.toList_none, List.append_nil, hset_ss, true_or, or_true, eq_self, beq_self_eq_true, List.drop_succ_cons, List.drop_zero, swT, swL, hset_ap, not_true_eq_false, not_false_eq_true, true_implies, false_implies, implies_true, Int32.reduceLE, Int32.reduceLT, Int32.reduceAdd, Int32.reduceSub, Int32.reduceOfInt, Int32.reduceToNatClampNeg, i10, i01, Nat.add_left_cancel_iff, Nat.left_eq_add, Nat.add_eq_left, cdX11_whichNow, F1, m'.o, (show upd c 30 v 7 = nI q from h7), e]
      have st := inner r 0 h' v g (by omega) m' (fun i hi => by rw [hf i hi]; simp [anyB]) hO
      have e0 : (mB r pm ||| (if (d 7 && (V r == 1 && anyB 0 (fun o => yB V (alm q) o && sameB (a 8) o r))) = true then (1 : Int32) <<< (nI r &&& 31) else 0)) = mB r pm := by
        simp [anyB]
      rw [e0] at st
      exact st
  have loop : ∀ w r h' v g, r + w = q → MH h' (upd c 30 v) (fset a 31 g) l → (∀ i, i < 32 → (bt v i = true ↔ (bt (c 28) i = true ∧ ∃ k, k < N ∧ ∃ r', r' < r ∧ FR G N L R (a 8) r' (ev d G N L R (a 8) r') k i))) → sOff h h' 52 80 → A z 192 n 0 0 h' 9 [some (.ref 52), some (.int (mB r (fun r => V r == 1))), some (.int (nI r)), none, none] [] Q := by
    intro w
    induction w with
    | zero =>
      intro r h' v g hw m' hf hO
      obtain rfl : r = q := by omega
      refine go_ok okF1 (C := cdX11_whichNow) (by rfl) [53] 40 (by exact Nat.le_of_ble_eq_true rfl) ?_
      simp (maxSteps := 2000000) only [go, stp, inS, ↓reduceIte, Bool.false_eq_true, Nat.reduceLT, Nat.reduceEqDiff, Nat.reduceAdd, ldI, ldL, ldA, st1, st2, okS, List.getElem?_cons_zero, List.getElem?_cons_succ, List.length_cons, List.length_nil, List.set_cons_zero, List.set_cons_succ, callP, callF, popN, ct, Value.category, cI, List.getD_cons_zero, List.getD_cons_succ, and_self, and_true, true_and, Nat.zero_le, Nat.reduceLeDiff, Nat.add_zero, Nat.zero_add, List.nil_append, List.cons_append, Option.toList_some, Option.toList_none, List.append_nil, hset_ss, true_or, or_true, eq_self, beq_self_eq_true, List.drop_succ_cons, List.drop_zero, swT, swL, hset_ap, not_true_eq_false, not_false_eq_true, true_implies, false_implies, implies_true, Int32.reduceLE, Int32.reduceLT, Int32.reduceAdd, Int32.reduceSub, Int32.reduceOfInt, Int32.reduceToNatClampNeg, i10, i01, Nat.add_left_cancel_iff, Nat.left_eq_add, Nat.add_eq_left, cdX11_whichNow, F1, m'.o, (show upd c 30 v 7 = nI r from h7), (show nI r ≤ nI r from (i_le (by omega) (by omega)).mpr (by omega))]
      rw [hbits]
      have := out2 r 0 h' v g none (by omega) m' (fun i hi => by
        rw [hf i hi]
        exact and_congr_right (fun _ => ⟨Or.inl, fun w => w.elim id (fun w => by obtain ⟨-, r', h1, -⟩ := w; omega)⟩)) hO
      exact this
    | succ w ih =>
      intro r h' v g hw m' hf hO
      have e : ¬ nI q ≤ nI r := by rw [i_le (by omega) (by omega)]; omega
      refine go_ok okF1 (C := cdX11_whichNow) (by rfl) [] 40 (by exact Nat.le_of_ble_eq_true rfl) ?_
      simp (maxSteps := 2000000) only [go, stp, inS, ↓reduceIte, Bool.false_eq_true, Nat.reduceLT, Nat.reduceEqDiff, Nat.reduceAdd, ldI, ldL, ldA, st1, st2, okS, List.getElem?_cons_zero, List.getElem?_cons_succ, List.length_cons, List.length_nil, List.set_cons_zero, List.set_cons_succ, callP, callF, popN, ct, Value.category, cI, List.getD_cons_zero, List.getD_cons_succ, and_self, and_true, true_and, Nat.zero_le, Nat.reduceLeDiff, Nat.add_zero, Nat.zero_add, List.nil_append, List.cons_append, Option.toList_some, Option.toList_none, List.append_nil, hset_ss, true_or, or_true, eq_self, beq_self_eq_true, List.drop_succ_cons, List.drop_zero, swT, swL, hset_ap, not_true_eq_false, not_false_eq_true, true_implies, false_implies, implies_true, Int32.reduceLE, Int32.reduceLT, Int32.reduceAdd, Int32.reduceSub, Int32.reduceOfInt, Int32.reduceToNatClampNeg, i10, i01, Nat.add_left_cancel_iff, Nat.left_eq_add, Nat.add_eq_left, cdX11_whichNow, F1, m'.o, (show upd c 30 v 7 = nI q from h7), e]
      refine D_goes (eng := true) m' hL.c30 (show r < 8 by omega) (fun h2 v2 g2 m2 hg hf2 o2 => ?_)
      rw [updupd, fsetset] at m2
      have hdd : bt (dnE (upd c 30 v) true) = d := hd
      rw [hdd] at hg hf2
      have hVr : V r = ev d G N L R (a 8) r 0 := by rw [← hV]
      have e0 : g2 0 = nI (V r) := by rw [hVr]; exact hg 0 hN
      have hle : V r ≤ 2 := by rw [hVr]; exact ev_le _ _
      have nx := ih (r + 1) h2 v2 g2 (by omega) m2 (fun i hi => by
        rw [hf2 i hi]
        show (bt v i = true ∨ (true = true ∧ bt (c 28) i = true ∧ _)) ↔ _
        rw [hf i hi]
        constructor
        · rintro (⟨q1, k, q2, r', q3, q4⟩ | ⟨-, q1, k, q2, q3⟩)
          · exact ⟨q1, k, q2, r', by omega, q4⟩
          · exact ⟨q1, k, q2, r, by omega, q3⟩
        · rintro ⟨q1, k, q2, r', q3, q4⟩
          by_cases er : r' = r
          · subst er; exact Or.inr ⟨rfl, q1, k, q2, q4⟩
          · exact Or.inl ⟨q1, k, q2, r', by omega, q4⟩) (hO.tr o2)
      rw [mB_add (by omega)] at nx
      by_cases e1 : V r = 1
      · rw [e1] at e0
        rw [if_pos (by rw [e1]; rfl)] at nx
        refine go_ok okF1 (C := cdX11_whichNow) (by rfl) [9] 40 (by exact Nat.le_of_ble_eq_true rfl) ?_
        simp (maxSteps := 2000000) only [go, stp, inS, ↓reduceIte, Bool.false_eq_true, Nat.reduceLT, Nat.reduceEqDiff, Nat.reduceAdd, ldI, ldL, ldA, st1, st2, okS, List.getElem?_cons_zero, List.getElem?_cons_succ, List.length_cons, List.length_nil, List.set_cons_zero, List.set_cons_succ, callP, callF, popN, ct, Value.category, cI, List.getD_cons_zero, List.getD_cons_succ, and_self, and_true, true_and, Nat.zero_le, Nat.reduceLeDiff, Nat.add_zero, Nat.zero_add, List.nil_append, List.cons_append, Option.toList_some, Option.toList_none, List.append_nil, hset_ss, true_or, or_true, eq_self, beq_self_eq_true, List.drop_succ_cons, List.drop_zero, swT, swL, hset_ap, not_true_eq_false, not_false_eq_true, true_implies, false_implies, implies_true, Int32.reduceLE, Int32.reduceLT, Int32.reduceAdd, Int32.reduceSub, Int32.reduceOfInt, Int32.reduceToNatClampNeg, i10, i01, Nat.add_left_cancel_iff, Nat.left_eq_add, Nat.add_eq_left, cdX11_whichNow, F1, m2.o, m2.a31, (show fset a 31 g2 31 0 = 1 from e0), nI_1]
        exact ⟨vp_in_nI (n := 0) (by omega) (by omega), nx⟩
      · have e2 : ¬ g2 0 = 1 := by rw [e0]; exact fun q => e1 ((i_eq (b := 1) (by omega) (by omega)).mp q)
        rw [if_neg (by simpa using e1)] at nx
        refine go_ok okF1 (C := cdX11_whichNow) (by rfl) [9] 40 (by exact Nat.le_of_ble_eq_true rfl) ?_
        simp (maxSteps := 2000000) only [go, stp, inS, ↓reduceIte, Bool.false_eq_true, Nat.reduceLT, Nat.reduceEqDiff, Nat.reduceAdd, ldI, ldL, ldA, st1, st2, okS, List.getElem?_cons_zero, List.getElem?_cons_succ, List.length_cons, List.length_nil, List.set_cons_zero, List.set_cons_succ, callP, callF, popN, ct, Value.category, cI, List.getD_cons_zero, List.getD_cons_succ, and_self, and_true, true_and, Nat.zero_le, Nat.reduceLeDiff, Nat.add_zero, Nat.zero_add, List.nil_append, List.cons_append, Option.toList_some, Option.toList_none, List.append_nil, hset_ss, true_or, or_true, eq_self, beq_self_eq_true, List.drop_succ_cons, List.drop_zero, swT, swL, hset_ap, not_true_eq_false, not_false_eq_true, true_implies, false_implies, implies_true, Int32.reduceLE, Int32.reduceLT, Int32.reduceAdd, Int32.reduceSub, Int32.reduceOfInt, Int32.reduceToNatClampNeg, i10, i01, Nat.add_left_cancel_iff, Nat.left_eq_add, Nat.add_eq_left, cdX11_whichNow, F1, m2.o, m2.a31, (show ¬ fset a 31 g2 31 0 = 1 from e2), nI_1]
        exact ⟨vp_in_nI (n := 0) (by omega) (by omega), nx⟩
  exact loop q 0 _ 0 (a 31) (by omega) (by rw [fset_me]; exact m.sc (upd c 30 0)) (fun i hi => by rw [b_0]; exact ⟨fun q => absurd q (by decide), fun ⟨_, k, _, r', h1, _⟩ => by omega⟩) (sOff.rf.set (by omega) (by omega))
end MN
