
/-! the model: blind -/
section SO
variable {n : Nat} {h : aH} {Q : aQ} {M : MS} {c : Nat → Int32} {a : Nat → Nat → Int32} {l : Nat → Nat → Int64} {s : pT}
theorem sm_ot {k : Nat} {d : Nat → Bool} (hk : k < 25) (hs : sOk s) {g : Nat → Int32} (hg : ∀ i, i < sqF k * 3 → g i = scF k i) : (anM d g (sqF k) (fun r => evS s g d r 0) (alm (sqF k)) == mB (sqF k) (fun r => evS s g (bt 0) r 0 == 1)) = (if k = 0 then true else (anM d smTf 12 (fun r => evS s smTf d r 0) (TmF (ikF k)) == (enc 12 (fun r => evS s smTf (bt 0) r 0) &&& 65535) &&& TmF (ikF k))) := by
  rcases ik_ok k hk with e | ⟨h1, h2, h3⟩
  · subst e
    rw [if_pos rfl, show sqF 0 = 0 from rfl, an_0]; rfl
  · have k0 : ¬ k = 0 := fun e => by subst e; rw [show sqF 0 = 0 from rfl] at h2; revert h2; decide
    rw [if_neg k0, c_en (by omega)]
    have hf : cpF (TmF (ikF k)) 12 smTf g := fun r hr hb2 c hc => by
      have := pcN_lt hr hb2
      rw [hg _ (by omega)]; exact h3 r hr hb2 c hc
    have hV : ∀ d : Nat → Bool, cpV (TmF (ikF k)) 12 (fun r => evS s smTf d r 0) (fun r => evS s g d r 0) := fun d r hr hb2 => evS_row (d := d) (k := 0) hs (fun c hc => hf r hr hb2 c hc) hs.1
    have s2 := sq_le k
    have ey : mB (sqF k) (fun r => evS s g (bt 0) r 0 == 1) = mB (sqF k) (yB (fun r => evS s g (bt 0) r 0) (alm (sqF k))) := mB_ext (fun r hr => by unfold yB; rw [b_alm (by omega) (by omega)]; simp [hr])
    rw [ey]
    unfold anM
    rw [mB_eq (by omega), mB_eq (by omega), ← h2]
    rw [c_any (s := TmF (ikF k)) (p := fun i => anB (d 7) smTf (fun r => evS s smTf d r 0) (TmF (ikF k)) i ^^ yB (fun r => evS s smTf (bt 0) r 0) (TmF (ikF k)) i) 12 (fun r hr hb => by rw [c_an (by omega) hf (hV d) hr hb, c_yB (by omega) (hV (bt 0)) hr hb]) (fun r hr hb => by rw [c_an0 hb]; unfold yB; rw [hb]; simp)]
theorem as_any {f : Nat} : anyB 25 (fun k => !(if k = 0 then true else (anM (bt (f1 f)) smTf 12 (fun r => evS s smTf (bt (f1 f)) r 0) (TmF (ikF k)) == (enc 12 (fun r => evS s smTf (bt 0) r 0) &&& 65535) &&& TmF (ikF k)))) = asS s f := by
  unfold asS
  rw [Bool.eq_iff_iff, anyB_iff, anyB_iff]
  constructor
  · rintro ⟨k, h1, h2⟩
    by_cases e : k = 0
    · rw [if_pos e] at h2; cases h2
    · rw [if_neg e] at h2
      rcases ik_ok k h1 with q | q
      · exact absurd q e
      · exact ⟨ikF k, q.1, h2⟩
  · rintro ⟨i, h1, h2⟩
    obtain ⟨q1, q2, q3⟩ := ki_ok i h1
    exact ⟨kiF i, q2, by rw [if_neg (by omega), q3]; exact h2⟩
set_option maxRecDepth 100000 in
set_option maxHeartbeats 400000 in
theorem D_other {f : Nat} (hf8 : f < 8) (m : MH h c a l) (rd : rdy M s c a l) (hk : sOk s) (hq : ∀ h' c' a', MH h' c' a' l → rdy M s c' a' l → sOff h h' 52 80 → Q (some (.int (if asS s f = true then 1 else 0))) n h') : Ok 233 [.ref 52, .int (nI f)] n h Q := by
  rw [← as_any] at hq
  generalize hp : (fun k => !(if k = 0 then true else (anM (bt (f1 f)) smTf 12 (fun r => evS s smTf (bt (f1 f)) r 0) (TmF (ikF k)) == (enc 12 (fun r => evS s smTf (bt 0) r 0) &&& 65535) &&& TmF (ikF k)))) = p at hq
  refine ok_of kMX11_isOther kCX11_isOther (Nat.le_of_ble_eq_true rfl) (fun z => ?_)
  change A z _ _ 0 0 _ 0 [some (.ref 52), some (.int (nI f)), none, none, none, none] [] _
  refine go_ok okF1 (C := cdX11_isOther) (by rfl) [30] 40 (by exact Nat.le_of_ble_eq_true rfl) ?_
  simp (maxSteps := 2000000) only [go, stp, inS, ↓reduceIte, Bool.false_eq_true, Nat.reduceLT, Nat.reduceEqDiff, Nat.reduceAdd, ldI, ldL, ldA, st1, st2, okS, List.getElem?_cons_zero, List.getElem?_cons_succ, List.length_cons, List.length_nil, List.set_cons_zero, List.set_cons_succ, callP, callF, popN, ct, Value.category, cI, List.getD_cons_zero, List.getD_cons_succ, and_self, and_true, true_and, Nat.zero_le, Nat.reduceLeDiff, Nat.add_zero, Nat.zero_add, List.nil_append, List.cons_append, Option.toList_some, Option.toList_none, List.append_nil, hset_ss, true_or, or_true, eq_self, beq_self_eq_true, List.drop_succ_cons, List.drop_zero, swT, swL, hset_ap, not_true_eq_false, not_false_eq_true, true_implies, false_implies, implies_true, Int32.reduceLE, Int32.reduceLT, Int32.reduceAdd, Int32.reduceSub, Int32.reduceOfInt, Int32.reduceToNatClampNeg, i10, i01, Nat.add_left_cancel_iff, Nat.left_eq_add, Nat.add_eq_left, cdX11_isOther, F1, m.o, rd.1.ru, rd.1.fa]
  have last : ∀ h' c' a' b l6, MH h' c' a' l → rdy (ruM M 255 (f1 f)) s c' a' l → sOff h h' 52 80 → b = anyB 25 p → A z 233 n 0 0 h' 78 [some (.ref 52), some (.int (nI f)), some (.int M.ru), some (.int M.fa), some (.int (if b = true then 1 else 0)), l6] [] Q := by
    intro h' c' a' b l6 m' r' o' hb
    refine go_ok okF1 (C := cdX11_isOther) (by rfl) [] 40 (by exact Nat.le_of_ble_eq_true rfl) ?_
    simp (maxSteps := 2000000) only [go, stp, inS, ↓reduceIte, Bool.false_eq_true, Nat.reduceLT, Nat.reduceEqDiff, Nat.reduceAdd, ldI, ldL, ldA, st1, st2, okS, List.getElem?_cons_zero, List.getElem?_cons_succ, List.length_cons, List.length_nil, List.set_cons_zero, List.set_cons_succ, callP, callF, popN, ct, Value.category, cI, List.getD_cons_zero, List.getD_cons_succ, and_self, and_true, true_and, Nat.zero_le, Nat.reduceLeDiff, Nat.add_zero, Nat.zero_add, List.nil_append, List.cons_append, Option.toList_some, Option.toList_none, List.append_nil, hset_ss, true_or, or_true, eq_self, beq_self_eq_true, List.drop_succ_cons, List.drop_zero, swT, swL, hset_ap, not_true_eq_false, not_false_eq_true, true_implies, false_implies, implies_true, Int32.reduceLE, Int32.reduceLT, Int32.reduceAdd, Int32.reduceSub, Int32.reduceOfInt, Int32.reduceToNatClampNeg, i10, i01, Nat.add_left_cancel_iff, Nat.left_eq_add, Nat.add_eq_left, cdX11_isOther, F1, m'.o]
    rw [← hb] at hq
    exact ⟨by cases b <;> simp, hq _ _ _ (m'.sc (upd (upd c' 28 M.ru) 29 M.fa)) r'.un (o'.set (by omega) (by omega))⟩
  have loop : ∀ w k h' c' a', k + w = 25 → anyB k p = false → MH h' c' a' l → rdy (ruM M 255 (f1 f)) s c' a' l → sOff h h' 52 80 → A z 233 n 0 0 h' 30 [some (.ref 52), some (.int (nI f)), some (.int M.ru), some (.int M.fa), some (.int 0), some (.int (nI k))] [] Q := by
    intro w
    induction w with
    | zero =>
      intro k h' c' a' hw hn m' r' o'
      obtain rfl : k = 25 := by omega
      refine go_ok okF1 (C := cdX11_isOther) (by rfl) [78] 40 (by exact Nat.le_of_ble_eq_true rfl) ?_
      simp (maxSteps := 2000000) only [go, stp, inS, ↓reduceIte, Bool.false_eq_true, Nat.reduceLT, Nat.reduceEqDiff, Nat.reduceAdd, ldI, ldL, ldA, st1, st2, okS, List.getElem?_cons_zero, List.getElem?_cons_succ, List.length_cons, List.length_nil, List.set_cons_zero, List.set_cons_succ, callP, callF, popN, ct, Value.category, cI, List.getD_cons_zero, List.getD_cons_succ, and_self, and_true, true_and, Nat.zero_le, Nat.reduceLeDiff, Nat.add_zero, Nat.zero_add, List.nil_append, List.cons_append, Option.toList_some, Option.toList_none, List.append_nil, hset_ss, true_or, or_true, eq_self, beq_self_eq_true, List.drop_succ_cons, List.drop_zero, swT, swL, hset_ap, not_true_eq_false, not_false_eq_true, true_implies, false_implies, implies_true, Int32.reduceLE, Int32.reduceLT, Int32.reduceAdd, Int32.reduceSub, Int32.reduceOfInt, Int32.reduceToNatClampNeg, i10, i01, Nat.add_left_cancel_iff, Nat.left_eq_add, Nat.add_eq_left, cdX11_isOther, F1, (show (25 : Int32) ≤ nI 25 by decide)]
      exact last h' c' a' false _ m' r' o' hn.symm
    | succ w ih =>
      intro k h' c' a' hw hn m' r' o'
      have e : ¬ 25 ≤ nI k := by rw [show (25 : Int32) = nI 25 from rfl, i_le (by omega) (by omega)]; omega
      refine go_ok okF1 (C := cdX11_isOther) (by rfl) [] 40 (by exact Nat.le_of_ble_eq_true rfl) ?_
      simp (maxSteps := 2000000) only [go, stp, inS, ↓reduceIte, Bool.false_eq_true, Nat.reduceLT, Nat.reduceEqDiff, Nat.reduceAdd, ldI, ldL, ldA, st1, st2, okS, List.getElem?_cons_zero, List.getElem?_cons_succ, List.length_cons, List.length_nil, List.set_cons_zero, List.set_cons_succ, callP, callF, popN, ct, Value.category, cI, List.getD_cons_zero, List.getD_cons_succ, and_self, and_true, true_and, Nat.zero_le, Nat.reduceLeDiff, Nat.add_zero, Nat.zero_add, List.nil_append, List.cons_append, Option.toList_some, Option.toList_none, List.append_nil, hset_ss, true_or, or_true, eq_self, beq_self_eq_true, List.drop_succ_cons, List.drop_zero, swT, swL, hset_ap, not_true_eq_false, not_false_eq_true, true_implies, false_implies, implies_true, Int32.reduceLE, Int32.reduceLT, Int32.reduceAdd, Int32.reduceSub, Int32.reduceOfInt, Int32.reduceToNatClampNeg, i10, i01, Nat.add_left_cancel_iff, Nat.left_eq_add, Nat.add_eq_left, cdX11_isOther, F1, e, m'.o]
      refine D_small (show k < 25 by omega) m' r' (fun h2 c2 a2 m2 r2 h7 hg o2 => ?_)
      have s2 := sq_le k
      refine go_ok okF1 (C := cdX11_isOther) (by rfl) [] 40 (by exact Nat.le_of_ble_eq_true rfl) ?_
      simp (maxSteps := 2000000) only [go, stp, inS, ↓reduceIte, Bool.false_eq_true, Nat.reduceLT, Nat.reduceEqDiff, Nat.reduceAdd, ldI, ldL, ldA, st1, st2, okS, List.getElem?_cons_zero, List.getElem?_cons_succ, List.length_cons, List.length_nil, List.set_cons_zero, List.set_cons_succ, callP, callF, popN, ct, Value.category, cI, List.getD_cons_zero, List.getD_cons_succ, and_self, and_true, true_and, Nat.zero_le, Nat.reduceLeDiff, Nat.add_zero, Nat.zero_add, List.nil_append, List.cons_append, Option.toList_some, Option.toList_none, List.append_nil, hset_ss, true_or, or_true, eq_self, beq_self_eq_true, List.drop_succ_cons, List.drop_zero, swT, swL, hset_ap, not_true_eq_false, not_false_eq_true, true_implies, false_implies, implies_true, Int32.reduceLE, Int32.reduceLT, Int32.reduceAdd, Int32.reduceSub, Int32.reduceOfInt, Int32.reduceToNatClampNeg, i10, i01, Nat.add_left_cancel_iff, Nat.left_eq_add, Nat.add_eq_left, cdX11_isOther, F1, m2.o]
      refine D_lays (how := 0) (o := 0) m2 r2.2.1 hk hk.1 (by omega) (fun h3 a3 G L R N m3 hl hf he hN _ o3 => ?_)
      have r3 := (r2.sc 21 (nI N) (by omega)).sa a3 (fun i i1 i2 i3 i4 => hf i (by omega))
      have g3 : a3 8 = a2 8 := hf 8 (by omega)
      refine go_ok okF1 (C := cdX11_isOther) (by rfl) [] 40 (by exact Nat.le_of_ble_eq_true rfl) ?_
      simp (maxSteps := 2000000) only [go, stp, inS, ↓reduceIte, Bool.false_eq_true, Nat.reduceLT, Nat.reduceEqDiff, Nat.reduceAdd, ldI, ldL, ldA, st1, st2, okS, List.getElem?_cons_zero, List.getElem?_cons_succ, List.length_cons, List.length_nil, List.set_cons_zero, List.set_cons_succ, callP, callF, popN, ct, Value.category, cI, List.getD_cons_zero, List.getD_cons_succ, and_self, and_true, true_and, Nat.zero_le, Nat.reduceLeDiff, Nat.add_zero, Nat.zero_add, List.nil_append, List.cons_append, Option.toList_some, Option.toList_none, List.append_nil, hset_ss, true_or, or_true, eq_self, beq_self_eq_true, List.drop_succ_cons, List.drop_zero, swT, swL, hset_ap, not_true_eq_false, not_false_eq_true, true_implies, false_implies, implies_true, Int32.reduceLE, Int32.reduceLT, Int32.reduceAdd, Int32.reduceSub, Int32.reduceOfInt, Int32.reduceToNatClampNeg, i10, i01, Nat.add_left_cancel_iff, Nat.left_eq_add, Nat.add_eq_left, cdX11_isOther, F1, m3.o]
      refine D_whichNow m3 hl hN h7 (by omega) (fun h4 v g4 m4 _ o4 => ?_)
      have cr : upd c2 21 (nI N) 28 = 255 := r2.1.ru
      have cf : upd c2 21 (nI N) 29 = f1 f := r2.1.fa
      have e1 : anM (bt (upd c2 21 (nI N) 28 &&& upd c2 21 (nI N) 29)) (a3 8) (sqF k) (fun r => ev (bt (upd c2 21 (nI N) 28 &&& upd c2 21 (nI N) 29)) G N L R (a3 8) r 0) (alm (sqF k)) = anM (bt (f1 f)) (a2 8) (sqF k) (fun r => evS s (a2 8) (bt (f1 f)) r 0) (alm (sqF k)) := by
        rw [cr, cf, x255 (f1_8 hf8), g3]
        congr 1
        funext r
        exact he _ _ _
      rw [e1]
      refine go_ok okF1 (C := cdX11_isOther) (by rfl) [] 40 (by exact Nat.le_of_ble_eq_true rfl) ?_
      simp (maxSteps := 2000000) only [go, stp, inS, ↓reduceIte, Bool.false_eq_true, Nat.reduceLT, Nat.reduceEqDiff, Nat.reduceAdd, ldI, ldL, ldA, st1, st2, okS, List.getElem?_cons_zero, List.getElem?_cons_succ, List.length_cons, List.length_nil, List.set_cons_zero, List.set_cons_succ, callP, callF, popN, ct, Value.category, cI, List.getD_cons_zero, List.getD_cons_succ, and_self, and_true, true_and, Nat.zero_le, Nat.reduceLeDiff, Nat.add_zero, Nat.zero_add, List.nil_append, List.cons_append, Option.toList_some, Option.toList_none, List.append_nil, hset_ss, true_or, or_true, eq_self, beq_self_eq_true, List.drop_succ_cons, List.drop_zero, swT, swL, hset_ap, not_true_eq_false, not_false_eq_true, true_implies, false_implies, implies_true, Int32.reduceLE, Int32.reduceLT, Int32.reduceAdd, Int32.reduceSub, Int32.reduceOfInt, Int32.reduceToNatClampNeg, i10, i01, Nat.add_left_cancel_iff, Nat.left_eq_add, Nat.add_eq_left, cdX11_isOther, F1, m4.o]
      refine D_meantNow m4 hl.c30 hN h7 (by omega) (fun h5 v5 g5 m5 o5 => ?_)
      rw [updupd, fsetset] at m5
      have e2 : mB (sqF k) (fun r => ev (bt 0) G N L R (fset a3 31 g4 8) r 0 == 1) = mB (sqF k) (fun r => evS s (a2 8) (bt 0) r 0 == 1) := mB_ext (fun r _ => by
        rw [show fset a3 31 g4 8 = a2 8 from g3, he]; rfl)
      rw [e2]
      have r5 := (r3.sc 30 v5 (by omega)).sa (fset a3 31 g5) (fun i i1 i2 i3 i4 => fset_n _ _ (by omega))
      have el : p k = !(anM (bt (f1 f)) (a2 8) (sqF k) (fun r => evS s (a2 8) (bt (f1 f)) r 0) (alm (sqF k)) == mB (sqF k) (fun r => evS s (a2 8) (bt 0) r 0 == 1)) := by
        rw [sm_ot (by omega) hk hg, ← hp]
      have o9 := (((o'.tr o2).tr o3).tr o4).tr o5
      have an : anyB (k + 1) p = p k := by rw [anyB, hn, Bool.false_or]
      by_cases e9 : anM (bt (f1 f)) (a2 8) (sqF k) (fun r => evS s (a2 8) (bt (f1 f)) r 0) (alm (sqF k)) = mB (sqF k) (fun r => evS s (a2 8) (bt 0) r 0 == 1)
      · have hpk : p k = false := by rw [el, e9]; simp
        refine go_ok okF1 (C := cdX11_isOther) (by rfl) [30] 40 (by exact Nat.le_of_ble_eq_true rfl) ?_
        simp (maxSteps := 2000000) only [go, stp, inS, ↓reduceIte, Bool.false_eq_true, Nat.reduceLT, Nat.reduceEqDiff, Nat.reduceAdd, ldI, ldL, ldA, st1, st2, okS, List.getElem?_cons_zero, List.getElem?_cons_succ, List.length_cons, List.length_nil, List.set_cons_zero, List.set_cons_succ, callP, callF, popN, ct, Value.category, cI, List.getD_cons_zero, List.getD_cons_succ, and_self, and_true, true_and, Nat.zero_le, Nat.reduceLeDiff, Nat.add_zero, Nat.zero_add, List.nil_append, List.cons_append, Option.toList_some, Option.toList_none, List.append_nil, hset_ss, true_or, or_true, eq_self, beq_self_eq_true, List.drop_succ_cons, List.drop_zero, swT, swL, hset_ap, not_true_eq_false, not_false_eq_true, true_implies, false_implies, implies_true, Int32.reduceLE, Int32.reduceLT, Int32.reduceAdd, Int32.reduceSub, Int32.reduceOfInt, Int32.reduceToNatClampNeg, i10, i01, Nat.add_left_cancel_iff, Nat.left_eq_add, Nat.add_eq_left, cdX11_isOther, F1, e9, nI_1]
        exact ih (k + 1) h5 _ _ (by omega) (by rw [an, hpk]) m5 r5 o9
      · have hpk : p k = true := by rw [el]; simp [e9]
        have all : true = anyB 25 p := (anyB_iff.mpr ⟨k, by omega, hpk⟩).symm
        have nx := fun l6 => last h5 _ _ true l6 m5 r5 o9 all
        by_cases e2 : 25 ≤ nI (k + 1)
        · refine go_ok okF1 (C := cdX11_isOther) (by rfl) [78] 40 (by exact Nat.le_of_ble_eq_true rfl) ?_
          simp (maxSteps := 2000000) only [go, stp, inS, ↓reduceIte, Bool.false_eq_true, Nat.reduceLT, Nat.reduceEqDiff, Nat.reduceAdd, ldI, ldL, ldA, st1, st2, okS, List.getElem?_cons_zero, List.getElem?_cons_succ, List.length_cons, List.length_nil, List.set_cons_zero, List.set_cons_succ, callP, callF, popN, ct, Value.category, cI, List.getD_cons_zero, List.getD_cons_succ, and_self, and_true, true_and, Nat.zero_le, Nat.reduceLeDiff, Nat.add_zero, Nat.zero_add, List.nil_append, List.cons_append, Option.toList_some, Option.toList_none, List.append_nil, hset_ss, true_or, or_true, eq_self, beq_self_eq_true, List.drop_succ_cons, List.drop_zero, swT, swL, hset_ap, not_true_eq_false, not_false_eq_true, true_implies, false_implies, implies_true, Int32.reduceLE, Int32.reduceLT, Int32.reduceAdd, Int32.reduceSub, Int32.reduceOfInt, Int32.reduceToNatClampNeg, i10, i01, Nat.add_left_cancel_iff, Nat.left_eq_add, Nat.add_eq_left, cdX11_isOther, F1, e9, nI_1, eq_true e2]
          exact nx _
        · refine go_ok okF1 (C := cdX11_isOther) (by rfl) [78] 40 (by exact Nat.le_of_ble_eq_true rfl) ?_
          simp (maxSteps := 2000000) only [go, stp, inS, ↓reduceIte, Bool.false_eq_true, Nat.reduceLT, Nat.reduceEqDiff, Nat.reduceAdd, ldI, ldL, ldA, st1, st2, okS, List.getElem?_cons_zero, List.getElem?_cons_succ, List.length_cons, List.length_nil, List.set_cons_zero, List.set_cons_succ, callP, callF, popN, ct, Value.category, cI, List.getD_cons_zero, List.getD_cons_succ, and_self, and_true, true_and, Nat.zero_le, Nat.reduceLeDiff, Nat.add_zero, Nat.zero_add, List.nil_append, List.cons_append, Option.toList_some, Option.toList_none, List.append_nil, hset_ss, true_or, or_true, eq_self, beq_self_eq_true, List.drop_succ_cons, List.drop_zero, swT, swL, hset_ap, not_true_eq_false, not_false_eq_true, true_implies, false_implies, implies_true, Int32.reduceLE, Int32.reduceLT, Int32.reduceAdd, Int32.reduceSub, Int32.reduceOfInt, Int32.reduceToNatClampNeg, i10, i01, Nat.add_left_cancel_iff, Nat.left_eq_add, Nat.add_eq_left, cdX11_isOther, F1, e9, nI_1, e2]
          exact nx _
  exact loop 25 0 _ (upd (upd c 28 255) 29 (f1 f)) a (by omega) rfl (m.sc (upd (upd c 28 255) 29 (f1 f))) (rd.ru 255 (f1 f)) (sOff.rf.set (by omega) (by omega))
theorem blS_t (ok : MOk M) (hw : pwB (M.s 0) = true) : blS (sM M 0) = blS (M.s 0) := by
  have hp := ok.pz0 (t := 0) (by omega) hw
  have ee : ∀ d r, evS (sM M 0) smTf d r 0 = evS (M.s 0) smTf d r 0 := fun d r => (evS_pR (f := smTf) (d := d) (r := r) (ok.pi 0 (by omega)) (pwB_iff.mp hw) (ok.pr 0 (by omega)) hp).2
  have ea : ∀ k, asS (sM M 0) k = asS (M.s 0) k := fun k => by
    unfold asS
    simp only [ee]
  unfold blS
  refine mB_ext (fun k _ => ?_)
  rw [ea, anyB_ext (fun law _ => by rw [smB_t ok hw, smB_t ok hw])]
set_option maxRecDepth 100000 in
set_option maxHeartbeats 400000 in
theorem D_blind (m : MI h M) (ok : MOk M) (hq : ∀ h', MI h' M → sOff h h' 52 80 → Q (some (.int (stBlind M))) n h') : Ok 234 [.ref 52] n h Q := by
  unfold stBlind at hq
  have m0 := m
  obtain ⟨c, a, l, m, r⟩ := m
  refine ok_of kMX11_blind kCX11_blind (Nat.le_of_ble_eq_true rfl) (fun z => ?_)
  change A z _ _ 0 0 _ 0 [some (.ref 52), none, none, none, none] [] _
  refine go_ok okF1 (C := cdX11_blind) (by rfl) [] 40 (by exact Nat.le_of_ble_eq_true rfl) ?_
  simp (maxSteps := 2000000) only [go, stp, inS, ↓reduceIte, Bool.false_eq_true, Nat.reduceLT, Nat.reduceEqDiff, Nat.reduceAdd, ldI, ldL, ldA, st1, st2, okS, List.getElem?_cons_zero, List.getElem?_cons_succ, List.length_cons, List.length_nil, List.set_cons_zero, List.set_cons_succ, callP, callF, popN, ct, Value.category, cI, List.getD_cons_zero, List.getD_cons_succ, and_self, and_true, true_and, Nat.zero_le, Nat.reduceLeDiff, Nat.add_zero, Nat.zero_add, List.nil_append, List.cons_append, Option.toList_some, Option.toList_none, List.append_nil, hset_ss, true_or, or_true, eq_self, beq_self_eq_true, List.drop_succ_cons, List.drop_zero, swT, swL, hset_ap, not_true_eq_false, not_false_eq_true, true_implies, false_implies, implies_true, Int32.reduceLE, Int32.reduceLT, Int32.reduceAdd, Int32.reduceSub, Int32.reduceOfInt, Int32.reduceToNatClampNeg, i10, i01, Nat.add_left_cancel_iff, Nat.left_eq_add, Nat.add_eq_left, cdX11_blind, F1, m.o]
  refine D_readsM (t := 0) m0 ok (by omega) (fun hw hf h' m' o => ?_) (fun hw h1 c1 a1 l1 m1 r1 hs h12 o1 => ?_)
  · refine go_ok okF1 (C := cdX11_blind) (by rfl) [] 40 (by exact Nat.le_of_ble_eq_true rfl) ?_
    simp (maxSteps := 2000000) only [go, stp, inS, ↓reduceIte, Bool.false_eq_true, Nat.reduceLT, Nat.reduceEqDiff, Nat.reduceAdd, ldI, ldL, ldA, st1, st2, okS, List.getElem?_cons_zero, List.getElem?_cons_succ, List.length_cons, List.length_nil, List.set_cons_zero, List.set_cons_succ, callP, callF, popN, ct, Value.category, cI, List.getD_cons_zero, List.getD_cons_succ, and_self, and_true, true_and, Nat.zero_le, Nat.reduceLeDiff, Nat.add_zero, Nat.zero_add, List.nil_append, List.cons_append, Option.toList_some, Option.toList_none, List.append_nil, hset_ss, true_or, or_true, eq_self, beq_self_eq_true, List.drop_succ_cons, List.drop_zero, swT, swL, hset_ap, not_true_eq_false, not_false_eq_true, true_implies, false_implies, implies_true, Int32.reduceLE, Int32.reduceLT, Int32.reduceAdd, Int32.reduceSub, Int32.reduceOfInt, Int32.reduceToNatClampNeg, i10, i01, Nat.add_left_cancel_iff, Nat.left_eq_add, Nat.add_eq_left, cdX11_blind, F1, hf]
    rw [if_neg hw] at hq
    exact hq h' m' o
  · rw [if_pos hw, ← blS_t ok hw] at hq
    have hk := ok.sok (t := 0) (by omega) hw
    have rd := rd0 ok hw r1 hs h12
    generalize sM M 0 = s at hq hk rd
    unfold blS at hq
    generalize hp : (fun k => asS s k && !anyB 7 (fun law => !smB s law 0 && smB s law (f1 k))) = p at hq
    refine go_ok okF1 (C := cdX11_blind) (by rfl) [16] 40 (by exact Nat.le_of_ble_eq_true rfl) ?_
    simp (maxSteps := 2000000) only [go, stp, inS, ↓reduceIte, Bool.false_eq_true, Nat.reduceLT, Nat.reduceEqDiff, Nat.reduceAdd, ldI, ldL, ldA, st1, st2, okS, List.getElem?_cons_zero, List.getElem?_cons_succ, List.length_cons, List.length_nil, List.set_cons_zero, List.set_cons_succ, callP, callF, popN, ct, Value.category, cI, List.getD_cons_zero, List.getD_cons_succ, and_self, and_true, true_and, Nat.zero_le, Nat.reduceLeDiff, Nat.add_zero, Nat.zero_add, List.nil_append, List.cons_append, Option.toList_some, Option.toList_none, List.append_nil, hset_ss, true_or, or_true, eq_self, beq_self_eq_true, List.drop_succ_cons, List.drop_zero, swT, swL, hset_ap, not_true_eq_false, not_false_eq_true, true_implies, false_implies, implies_true, Int32.reduceLE, Int32.reduceLT, Int32.reduceAdd, Int32.reduceSub, Int32.reduceOfInt, Int32.reduceToNatClampNeg, i10, i01, Nat.add_left_cancel_iff, Nat.left_eq_add, Nat.add_eq_left, cdX11_blind, F1]
    have outer : ∀ w k h' c' a' l3 l4, k + w = 8 → MH h' c' a' (kL l1 c1) → rdy M s c' a' (kL l1 c1) → sOff h h' 52 80 → A z 234 n 0 0 h' 16 [some (.ref 52), some (.int (mB k p)), some (.int (nI k)), l3, l4] [] Q := by
      intro w
      induction w with
      | zero =>
        intro k h' c' a' l3 l4 hw2 m' r' o'
        obtain rfl : k = 8 := by omega
        refine go_ok okF1 (C := cdX11_blind) (by rfl) [] 40 (by exact Nat.le_of_ble_eq_true rfl) ?_
        simp (maxSteps := 2000000) only [go, stp, inS, ↓reduceIte, Bool.false_eq_true, Nat.reduceLT, Nat.reduceEqDiff, Nat.reduceAdd, ldI, ldL, ldA, st1, st2, okS, List.getElem?_cons_zero, List.getElem?_cons_succ, List.length_cons, List.length_nil, List.set_cons_zero, List.set_cons_succ, callP, callF, popN, ct, Value.category, cI, List.getD_cons_zero, List.getD_cons_succ, and_self, and_true, true_and, Nat.zero_le, Nat.reduceLeDiff, Nat.add_zero, Nat.zero_add, List.nil_append, List.cons_append, Option.toList_some, Option.toList_none, List.append_nil, hset_ss, true_or, or_true, eq_self, beq_self_eq_true, List.drop_succ_cons, List.drop_zero, swT, swL, hset_ap, not_true_eq_false, not_false_eq_true, true_implies, false_implies, implies_true, Int32.reduceLE, Int32.reduceLT, Int32.reduceAdd, Int32.reduceSub, Int32.reduceOfInt, Int32.reduceToNatClampNeg, i10, i01, Nat.add_left_cancel_iff, Nat.left_eq_add, Nat.add_eq_left, cdX11_blind, F1, (show (8 : Int32) ≤ nI 8 by decide)]
        exact hq h' ⟨_, _, _, m', r'.1⟩ o'
      | succ w ih =>
        intro k h' c' a' l3 l4 hw2 m' r' o'
        have e : ¬ 8 ≤ nI k := by rw [show (8 : Int32) = nI 8 from rfl, i_le (by omega) (by omega)]; omega
        refine go_ok okF1 (C := cdX11_blind) (by rfl) [] 40 (by exact Nat.le_of_ble_eq_true rfl) ?_
        simp (maxSteps := 2000000) only [go, stp, inS, ↓reduceIte, Bool.false_eq_true, Nat.reduceLT, Nat.reduceEqDiff, Nat.reduceAdd, ldI, ldL, ldA, st1, st2, okS, List.getElem?_cons_zero, List.getElem?_cons_succ, List.length_cons, List.length_nil, List.set_cons_zero, List.set_cons_succ, callP, callF, popN, ct, Value.category, cI, List.getD_cons_zero, List.getD_cons_succ, and_self, and_true, true_and, Nat.zero_le, Nat.reduceLeDiff, Nat.add_zero, Nat.zero_add, List.nil_append, List.cons_append, Option.toList_some, Option.toList_none, List.append_nil, hset_ss, true_or, or_true, eq_self, beq_self_eq_true, List.drop_succ_cons, List.drop_zero, swT, swL, hset_ap, not_true_eq_false, not_false_eq_true, true_implies, false_implies, implies_true, Int32.reduceLE, Int32.reduceLT, Int32.reduceAdd, Int32.reduceSub, Int32.reduceOfInt, Int32.reduceToNatClampNeg, i10, i01, Nat.add_left_cancel_iff, Nat.left_eq_add, Nat.add_eq_left, cdX11_blind, F1, e, m'.o]
        refine D_other (show k < 8 by omega) m' r' hk (fun h2 c2 a2 m2 r2 o2 => ?_)
        -- the bit
        have last : ∀ b h3 c3 a3 l4, b = p k → MH h3 c3 a3 (kL l1 c1) → rdy M s c3 a3 (kL l1 c1) → sOff h h3 52 80 → A z 234 n 0 0 h3 76 [some (.ref 52), some (.int (mB k p)), some (.int (nI k)), some (.int (if b = true then 1 else 0)), l4] [] Q := by
          intro b h3 c3 a3 l4 hb m3 r3 o3
          have nx := fun l3 l4 => ih (k + 1) h3 c3 a3 l3 l4 (by omega) m3 r3 o3
          rw [mB_add (by omega), ← hb] at nx
          cases b with
          | true =>
            refine go_ok okF1 (C := cdX11_blind) (by rfl) [16] 40 (by exact Nat.le_of_ble_eq_true rfl) ?_
            simp (maxSteps := 2000000) only [go, stp, inS, ↓reduceIte, Bool.false_eq_true, Nat.reduceLT, Nat.reduceEqDiff, Nat.reduceAdd, ldI, ldL, ldA, st1, st2, okS, List.getElem?_cons_zero, List.getElem?_cons_succ, List.length_cons, List.length_nil, List.set_cons_zero, List.set_cons_succ, callP, callF, popN, ct, Value.category, cI, List.getD_cons_zero, List.getD_cons_succ, and_self, and_true, true_and, Nat.zero_le, Nat.reduceLeDiff, Nat.add_zero, Nat.zero_add, List.nil_append, List.cons_append, Option.toList_some, Option.toList_none, List.append_nil, hset_ss, true_or, or_true, eq_self, beq_self_eq_true, List.drop_succ_cons, List.drop_zero, swT, swL, hset_ap, not_true_eq_false, not_false_eq_true, true_implies, false_implies, implies_true, Int32.reduceLE, Int32.reduceLT, Int32.reduceAdd, Int32.reduceSub, Int32.reduceOfInt, Int32.reduceToNatClampNeg, i10, i01, Nat.add_left_cancel_iff, Nat.left_eq_add, Nat.add_eq_left, cdX11_blind, F1, nI_1]
            exact nx _ _
          | false =>
            refine go_ok okF1 (C := cdX11_blind) (by rfl) [16] 40 (by exact Nat.le_of_ble_eq_true rfl) ?_
            simp (maxSteps := 2000000) only [go, stp, inS, ↓reduceIte, Bool.false_eq_true, Nat.reduceLT, Nat.reduceEqDiff, Nat.reduceAdd, ldI, ldL, ldA, st1, st2, okS, List.getElem?_cons_zero, List.getElem?_cons_succ, List.length_cons, List.length_nil, List.set_cons_zero, List.set_cons_succ, callP, callF, popN, ct, Value.category, cI, List.getD_cons_zero, List.getD_cons_succ, and_self, and_true, true_and, Nat.zero_le, Nat.reduceLeDiff, Nat.add_zero, Nat.zero_add, List.nil_append, List.cons_append, Option.toList_some, Option.toList_none, List.append_nil, hset_ss, true_or, or_true, eq_self, beq_self_eq_true, List.drop_succ_cons, List.drop_zero, swT, swL, hset_ap, not_true_eq_false, not_false_eq_true, true_implies, false_implies, implies_true, Int32.reduceLE, Int32.reduceLT, Int32.reduceAdd, Int32.reduceSub, Int32.reduceOfInt, Int32.reduceToNatClampNeg, i10, i01, Nat.add_left_cancel_iff, Nat.left_eq_add, Nat.add_eq_left, cdX11_blind, F1, nI_1]
            exact nx _ _
        have pe : p k = (asS s k && !anyB 7 (fun law => !smB s law 0 && smB s law (f1 k))) := by rw [← hp]
        refine go_ok okF1 (C := cdX11_blind) (by rfl) [31] 40 (by exact Nat.le_of_ble_eq_true rfl) ?_
        simp (maxSteps := 2000000) only [go, stp, inS, ↓reduceIte, Bool.false_eq_true, Nat.reduceLT, Nat.reduceEqDiff, Nat.reduceAdd, ldI, ldL, ldA, st1, st2, okS, List.getElem?_cons_zero, List.getElem?_cons_succ, List.length_cons, List.length_nil, List.set_cons_zero, List.set_cons_succ, callP, callF, popN, ct, Value.category, cI, List.getD_cons_zero, List.getD_cons_succ, and_self, and_true, true_and, Nat.zero_le, Nat.reduceLeDiff, Nat.add_zero, Nat.zero_add, List.nil_append, List.cons_append, Option.toList_some, Option.toList_none, List.append_nil, hset_ss, true_or, or_true, eq_self, beq_self_eq_true, List.drop_succ_cons, List.drop_zero, swT, swL, hset_ap, not_true_eq_false, not_false_eq_true, true_implies, false_implies, implies_true, Int32.reduceLE, Int32.reduceLT, Int32.reduceAdd, Int32.reduceSub, Int32.reduceOfInt, Int32.reduceToNatClampNeg, i10, i01, Nat.add_left_cancel_iff, Nat.left_eq_add, Nat.add_eq_left, cdX11_blind, F1]
        have laws : ∀ u j b h3 c3 a3, j + u = 7 → b = (asS s k && !anyB j (fun law => !smB s law 0 && smB s law (f1 k))) → MH h3 c3 a3 (kL l1 c1) → rdy M s c3 a3 (kL l1 c1) → sOff h h3 52 80 → A z 234 n 0 0 h3 31 [some (.ref 52), some (.int (mB k p)), some (.int (nI k)), some (.int (if b = true then 1 else 0)), some (.int (nI j))] [] Q := by
          intro u
          induction u with
          | zero =>
            intro j b h3 c3 a3 hj hb m3 r3 o3
            obtain rfl : j = 7 := by omega
            refine go_ok okF1 (C := cdX11_blind) (by rfl) [76] 40 (by exact Nat.le_of_ble_eq_true rfl) ?_
            simp (maxSteps := 2000000) only [go, stp, inS, ↓reduceIte, Bool.false_eq_true, Nat.reduceLT, Nat.reduceEqDiff, Nat.reduceAdd, ldI, ldL, ldA, st1, st2, okS, List.getElem?_cons_zero, List.getElem?_cons_succ, List.length_cons, List.length_nil, List.set_cons_zero, List.set_cons_succ, callP, callF, popN, ct, Value.category, cI, List.getD_cons_zero, List.getD_cons_succ, and_self, and_true, true_and, Nat.zero_le, Nat.reduceLeDiff, Nat.add_zero, Nat.zero_add, List.nil_append, List.cons_append, Option.toList_some, Option.toList_none, List.append_nil, hset_ss, true_or, or_true, eq_self, beq_self_eq_true, List.drop_succ_cons, List.drop_zero, swT, swL, hset_ap, not_true_eq_false, not_false_eq_true, true_implies, false_implies, implies_true, Int32.reduceLE, Int32.reduceLT, Int32.reduceAdd, Int32.reduceSub, Int32.reduceOfInt, Int32.reduceToNatClampNeg, i10, i01, Nat.add_left_cancel_iff, Nat.left_eq_add, Nat.add_eq_left, cdX11_blind, F1, (show (7 : Int32) ≤ nI 7 by decide)]
            exact last b h3 c3 a3 _ (by rw [pe]; exact hb) m3 r3 o3
          | succ u ihu =>
            intro j b h3 c3 a3 hj hb m3 r3 o3
            have e7 : ¬ 7 ≤ nI j := by rw [show (7 : Int32) = nI 7 from rfl, i_le (by omega) (by omega)]; omega
            cases b with
            | false =>
              refine go_ok okF1 (C := cdX11_blind) (by rfl) [76] 40 (by exact Nat.le_of_ble_eq_true rfl) ?_
              simp (maxSteps := 2000000) only [go, stp, inS, ↓reduceIte, Bool.false_eq_true, Nat.reduceLT, Nat.reduceEqDiff, Nat.reduceAdd, ldI, ldL, ldA, st1, st2, okS, List.getElem?_cons_zero, List.getElem?_cons_succ, List.length_cons, List.length_nil, List.set_cons_zero, List.set_cons_succ, callP, callF, popN, ct, Value.category, cI, List.getD_cons_zero, List.getD_cons_succ, and_self, and_true, true_and, Nat.zero_le, Nat.reduceLeDiff, Nat.add_zero, Nat.zero_add, List.nil_append, List.cons_append, Option.toList_some, Option.toList_none, List.append_nil, hset_ss, true_or, or_true, eq_self, beq_self_eq_true, List.drop_succ_cons, List.drop_zero, swT, swL, hset_ap, not_true_eq_false, not_false_eq_true, true_implies, false_implies, implies_true, Int32.reduceLE, Int32.reduceLT, Int32.reduceAdd, Int32.reduceSub, Int32.reduceOfInt, Int32.reduceToNatClampNeg, i10, i01, Nat.add_left_cancel_iff, Nat.left_eq_add, Nat.add_eq_left, cdX11_blind, F1, e7]
              refine last false h3 c3 a3 _ ?_ m3 r3 o3
              rw [pe]
              cases hA : asS s k with
              | false => rfl
              | true =>
                rw [hA, Bool.true_and] at hb
                have : anyB j (fun law => !smB s law 0 && smB s law (f1 k)) = true := by
                  cases hx : anyB j (fun law => !smB s law 0 && smB s law (f1 k))
                  · rw [hx] at hb; cases hb
                  · rfl
                rw [anyB_mono (by omega) this]; rfl
            | true =>
              have hA : asS s k = true := by
                cases hA : asS s k
                · rw [hA] at hb; cases hb
                · rfl
              have hx : anyB j (fun law => !smB s law 0 && smB s law (f1 k)) = false := by
                cases hx : anyB j (fun law => !smB s law 0 && smB s law (f1 k))
                · rfl
                · rw [hA, hx] at hb; cases hb
              have nx := fun b' => ihu (j + 1) b'
              rw [anyB, hx, hA] at nx
              refine go_ok okF1 (C := cdX11_blind) (by rfl) [] 40 (by exact Nat.le_of_ble_eq_true rfl) ?_
              simp (maxSteps := 2000000) only [go, stp, inS, ↓reduceIte, Bool.false_eq_true, Nat.reduceLT, Nat.reduceEqDiff, Nat.reduceAdd, ldI, ldL, ldA, st1, st2, okS, List.getElem?_cons_zero, List.getElem?_cons_succ, List.length_cons, List.length_nil, List.set_cons_zero, List.set_cons_succ, callP, callF, popN, ct, Value.category, cI, List.getD_cons_zero, List.getD_cons_succ, and_self, and_true, true_and, Nat.zero_le, Nat.reduceLeDiff, Nat.add_zero, Nat.zero_add, List.nil_append, List.cons_append, Option.toList_some, Option.toList_none, List.append_nil, hset_ss, true_or, or_true, eq_self, beq_self_eq_true, List.drop_succ_cons, List.drop_zero, swT, swL, hset_ap, not_true_eq_false, not_false_eq_true, true_implies, false_implies, implies_true, Int32.reduceLE, Int32.reduceLT, Int32.reduceAdd, Int32.reduceSub, Int32.reduceOfInt, Int32.reduceToNatClampNeg, i10, i01, Nat.add_left_cancel_iff, Nat.left_eq_add, Nat.add_eq_left, cdX11_blind, F1, e7, m3.o]
              refine D_qSmall (x := 0) m3 r3 hk (show j < 7 by omega) (fun i _ => b_0 i) (fun h4 c4 a4 m4 r4 o4 => ?_)
              by_cases b1 : smB s j 0 = true
              · rw [if_pos b1]
                refine go_ok okF1 (C := cdX11_blind) (by rfl) [31] 40 (by exact Nat.le_of_ble_eq_true rfl) ?_
                simp (maxSteps := 2000000) only [go, stp, inS, ↓reduceIte, Bool.false_eq_true, Nat.reduceLT, Nat.reduceEqDiff, Nat.reduceAdd, ldI, ldL, ldA, st1, st2, okS, List.getElem?_cons_zero, List.getElem?_cons_succ, List.length_cons, List.length_nil, List.set_cons_zero, List.set_cons_succ, callP, callF, popN, ct, Value.category, cI, List.getD_cons_zero, List.getD_cons_succ, and_self, and_true, true_and, Nat.zero_le, Nat.reduceLeDiff, Nat.add_zero, Nat.zero_add, List.nil_append, List.cons_append, Option.toList_some, Option.toList_none, List.append_nil, hset_ss, true_or, or_true, eq_self, beq_self_eq_true, List.drop_succ_cons, List.drop_zero, swT, swL, hset_ap, not_true_eq_false, not_false_eq_true, true_implies, false_implies, implies_true, Int32.reduceLE, Int32.reduceLT, Int32.reduceAdd, Int32.reduceSub, Int32.reduceOfInt, Int32.reduceToNatClampNeg, i10, i01, Nat.add_left_cancel_iff, Nat.left_eq_add, Nat.add_eq_left, cdX11_blind, F1, nI_1]
                exact nx true h4 c4 a4 (by omega) (by rw [b1]; rfl) m4 r4 (o3.tr o4)
              · rw [if_neg b1]
                refine go_ok okF1 (C := cdX11_blind) (by rfl) [] 40 (by exact Nat.le_of_ble_eq_true rfl) ?_
                simp (maxSteps := 2000000) only [go, stp, inS, ↓reduceIte, Bool.false_eq_true, Nat.reduceLT, Nat.reduceEqDiff, Nat.reduceAdd, ldI, ldL, ldA, st1, st2, okS, List.getElem?_cons_zero, List.getElem?_cons_succ, List.length_cons, List.length_nil, List.set_cons_zero, List.set_cons_succ, callP, callF, popN, ct, Value.category, cI, List.getD_cons_zero, List.getD_cons_succ, and_self, and_true, true_and, Nat.zero_le, Nat.reduceLeDiff, Nat.add_zero, Nat.zero_add, List.nil_append, List.cons_append, Option.toList_some, Option.toList_none, List.append_nil, hset_ss, true_or, or_true, eq_self, beq_self_eq_true, List.drop_succ_cons, List.drop_zero, swT, swL, hset_ap, not_true_eq_false, not_false_eq_true, true_implies, false_implies, implies_true, Int32.reduceLE, Int32.reduceLT, Int32.reduceAdd, Int32.reduceSub, Int32.reduceOfInt, Int32.reduceToNatClampNeg, i10, i01, Nat.add_left_cancel_iff, Nat.left_eq_add, Nat.add_eq_left, cdX11_blind, F1, m4.o]
                refine D_qSmall (x := (1 : Int32) <<< (nI k &&& 31)) m4 r4 hk (show j < 7 by omega) (f1_8 (by omega)) (fun h5 c5 a5 m5 r5 o5 => ?_)
                by_cases b2 : smB s j ((1 : Int32) <<< (nI k &&& 31)) = true
                · rw [if_pos b2]
                  refine go_ok okF1 (C := cdX11_blind) (by rfl) [31] 40 (by exact Nat.le_of_ble_eq_true rfl) ?_
                  simp (maxSteps := 2000000) only [go, stp, inS, ↓reduceIte, Bool.false_eq_true, Nat.reduceLT, Nat.reduceEqDiff, Nat.reduceAdd, ldI, ldL, ldA, st1, st2, okS, List.getElem?_cons_zero, List.getElem?_cons_succ, List.length_cons, List.length_nil, List.set_cons_zero, List.set_cons_succ, callP, callF, popN, ct, Value.category, cI, List.getD_cons_zero, List.getD_cons_succ, and_self, and_true, true_and, Nat.zero_le, Nat.reduceLeDiff, Nat.add_zero, Nat.zero_add, List.nil_append, List.cons_append, Option.toList_some, Option.toList_none, List.append_nil, hset_ss, true_or, or_true, eq_self, beq_self_eq_true, List.drop_succ_cons, List.drop_zero, swT, swL, hset_ap, not_true_eq_false, not_false_eq_true, true_implies, false_implies, implies_true, Int32.reduceLE, Int32.reduceLT, Int32.reduceAdd, Int32.reduceSub, Int32.reduceOfInt, Int32.reduceToNatClampNeg, i10, i01, Nat.add_left_cancel_iff, Nat.left_eq_add, Nat.add_eq_left, cdX11_blind, F1, nI_1]
                  exact nx false h5 c5 a5 (by omega) (by rw [Bool.eq_false_iff.mpr b1, show smB s j (f1 k) = true from b2]; rfl) m5 r5 ((o3.tr o4).tr o5)
                · rw [if_neg b2]
                  refine go_ok okF1 (C := cdX11_blind) (by rfl) [31] 40 (by exact Nat.le_of_ble_eq_true rfl) ?_
                  simp (maxSteps := 2000000) only [go, stp, inS, ↓reduceIte, Bool.false_eq_true, Nat.reduceLT, Nat.reduceEqDiff, Nat.reduceAdd, ldI, ldL, ldA, st1, st2, okS, List.getElem?_cons_zero, List.getElem?_cons_succ, List.length_cons, List.length_nil, List.set_cons_zero, List.set_cons_succ, callP, callF, popN, ct, Value.category, cI, List.getD_cons_zero, List.getD_cons_succ, and_self, and_true, true_and, Nat.zero_le, Nat.reduceLeDiff, Nat.add_zero, Nat.zero_add, List.nil_append, List.cons_append, Option.toList_some, Option.toList_none, List.append_nil, hset_ss, true_or, or_true, eq_self, beq_self_eq_true, List.drop_succ_cons, List.drop_zero, swT, swL, hset_ap, not_true_eq_false, not_false_eq_true, true_implies, false_implies, implies_true, Int32.reduceLE, Int32.reduceLT, Int32.reduceAdd, Int32.reduceSub, Int32.reduceOfInt, Int32.reduceToNatClampNeg, i10, i01, Nat.add_left_cancel_iff, Nat.left_eq_add, Nat.add_eq_left, cdX11_blind, F1, nI_1]
                  exact nx true h5 c5 a5 (by omega) (by rw [show smB s j (f1 k) = false from Bool.eq_false_iff.mpr b2, Bool.and_false]; rfl) m5 r5 ((o3.tr o4).tr o5)
        exact laws 7 0 (asS s k) h2 c2 a2 (by omega) (by simp [anyB]) m2 r2 (o'.tr o2)
    exact outer 8 0 h1 c1 a1 _ _ (by omega) (m1.kl c1) rd o1
end SO
