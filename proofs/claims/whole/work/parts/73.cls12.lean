
/-! GrownAsks: grow, learn, next, holds, seen, blind -/
section C12
variable {n : Nat} {h : aH} {Q : aQ} {M : MS}
noncomputable def gSt (s : pT) (seed : Int32) (r : Nat) : pT := pfold (pz (sG s) (sL s) (sR s)) 0 (grB seed r)
noncomputable def stGrow (M : MS) (seed r : Int32) : Int32 × MS := if 1 ≤ r ∧ r ≤ 9 then (nI (grB seed r.toNatClampNeg).length, txM M 1 (wr (M.B 1) (grB seed r.toNatClampNeg)) (gSt (M.s 1) seed r.toNatClampNeg) (grB seed r.toNatClampNeg).length) else (-2, M)
set_option maxRecDepth 100000 in
set_option maxHeartbeats 400000 in
theorem K_grow {seed r : Int32} (c : CInv h M) (hq : ∀ h', CInv h' (stGrow M seed r).2 → sOff h h' 0 52 → Q (some (.int (stGrow M seed r).1)) n h') : Ok 106 [.ref 0, .int seed, .int r] n h Q := by
  unfold stGrow at hq
  refine ok_of kMX10_grow kCX10_grow (Nat.le_of_ble_eq_true rfl) (fun z => ?_)
  change A z _ _ 0 0 _ 0 [some (.ref 0), some (.int seed), some (.int r)] [] _
  by_cases hr : 1 ≤ r ∧ r ≤ 9
  · rw [if_pos hr] at hq
    obtain ⟨j, h1, h9, rfl⟩ := i_rng (a := 1) (b := 9) (by omega) hr.1 hr.2 (by omega)
    rw [i_cl (show j < 2147483648 by omega)] at hq
    obtain ⟨Rm, w, sd, hG⟩ := c.gr
    obtain ⟨S, hx, hz⟩ := c.t1
    refine go_ok okF1 (C := cdX10_grow) (by rfl) [] 40 (by exact Nat.le_of_ble_eq_true rfl) ?_
    simp (maxSteps := 2000000) only [go, stp, inS, ↓reduceIte, Bool.false_eq_true, Nat.reduceLT, Nat.reduceEqDiff, Nat.reduceAdd, ldI, ldL, ldA, st1, st2, okS, List.getElem?_cons_zero, List.getElem?_cons_succ, List.length_cons, List.length_nil, List.set_cons_zero, List.set_cons_succ, callP, callF, popN, ct, Value.category, cI, List.getD_cons_zero, List.getD_cons_succ, and_self, and_true, true_and, Nat.zero_le, Nat.reduceLeDiff, Nat.add_zero, Nat.zero_add, List.nil_append, List.cons_append, Option.toList_some, Option.toList_none, List.append_nil, hset_ss, true_or, or_true, eq_self, beq_self_eq_true, List.drop_succ_cons, List.drop_zero, swT, swL, hset_ap, not_true_eq_false, not_false_eq_true, true_implies, false_implies, implies_true, Int32.reduceLE, Int32.reduceLT, Int32.reduceAdd, Int32.reduceSub, Int32.reduceOfInt, Int32.reduceToNatClampNeg, i10, i01, Nat.add_left_cancel_iff, Nat.left_eq_add, Nat.add_eq_left, cdX10_grow, F1, eq_true hr, c.o, (show h 30 = _ from hG.1)]
    refine G_into hG hx (by omega) h1 h9 (fun h' Rm' w' sd' hG' hX' hO => ?_)
    have c1 : CInv (fun q => if q = 30 ∨ q = 31 then h' q else h q) M := CInv.uGr (Rm := Rm') (w := w') (sd := sd') ⟨hG'.1, hG'.2⟩ c (fun q hq => by simp [show ¬ (q = 30 ∨ q = 31) by omega])
    obtain ⟨S', hx', hz', hI'⟩ := id hX'
    have c2 : CInv h' (txM M 1 (wr (M.B 1) (grB seed j)) (gSt (M.s 1) seed j) (grB seed j).length) := CInv.uT1 ⟨S', hx', hz'⟩ c1 (fun q hq => by
      by_cases e : q = 30 ∨ q = 31
      · simp [e]
      · simp only [if_neg e]; exact hO q (by omega) (by omega))
    refine go_ok okF1 (C := cdX10_grow) (by rfl) [] 40 (by exact Nat.le_of_ble_eq_true rfl) ?_
    simp (maxSteps := 2000000) only [go, stp, inS, ↓reduceIte, Bool.false_eq_true, Nat.reduceLT, Nat.reduceEqDiff, Nat.reduceAdd, ldI, ldL, ldA, st1, st2, okS, List.getElem?_cons_zero, List.getElem?_cons_succ, List.length_cons, List.length_nil, List.set_cons_zero, List.set_cons_succ, callP, callF, popN, ct, Value.category, cI, List.getD_cons_zero, List.getD_cons_succ, and_self, and_true, true_and, Nat.zero_le, Nat.reduceLeDiff, Nat.add_zero, Nat.zero_add, List.nil_append, List.cons_append, Option.toList_some, Option.toList_none, List.append_nil, hset_ss, true_or, or_true, eq_self, beq_self_eq_true, List.drop_succ_cons, List.drop_zero, swT, swL, hset_ap, not_true_eq_false, not_false_eq_true, true_implies, false_implies, implies_true, Int32.reduceLE, Int32.reduceLT, Int32.reduceAdd, Int32.reduceSub, Int32.reduceOfInt, Int32.reduceToNatClampNeg, i10, i01, Nat.add_left_cancel_iff, Nat.left_eq_add, Nat.add_eq_left, cdX10_grow, F1, c2.o, hx'.1]
    exact hq h' c2 (fun q hq => hO q (by omega) (by omega))
  · rw [if_neg hr] at hq
    refine go_ok okF1 (C := cdX10_grow) (by rfl) [] 40 (by exact Nat.le_of_ble_eq_true rfl) ?_
    simp (maxSteps := 2000000) only [go, stp, inS, ↓reduceIte, Bool.false_eq_true, Nat.reduceLT, Nat.reduceEqDiff, Nat.reduceAdd, ldI, ldL, ldA, st1, st2, okS, List.getElem?_cons_zero, List.getElem?_cons_succ, List.length_cons, List.length_nil, List.set_cons_zero, List.set_cons_succ, callP, callF, popN, ct, Value.category, cI, List.getD_cons_zero, List.getD_cons_succ, and_self, and_true, true_and, Nat.zero_le, Nat.reduceLeDiff, Nat.add_zero, Nat.zero_add, List.nil_append, List.cons_append, Option.toList_some, Option.toList_none, List.append_nil, hset_ss, true_or, or_true, eq_self, beq_self_eq_true, List.drop_succ_cons, List.drop_zero, swT, swL, hset_ap, not_true_eq_false, not_false_eq_true, true_implies, false_implies, implies_true, Int32.reduceLE, Int32.reduceLT, Int32.reduceAdd, Int32.reduceSub, Int32.reduceOfInt, Int32.reduceToNatClampNeg, i10, i01, Nat.add_left_cancel_iff, Nat.left_eq_add, Nat.add_eq_left, cdX10_grow, F1, eq_false hr]
    exact hq h c sOff.rf
noncomputable def stLearn (M : MS) (x : Int32) : Int32 × MS := if 0 ≤ x ∧ x < 2 then (if pwB (M.s x.toNatClampNeg) = true then (nI (prT (fun a b => bt (npF M.P (fiM M (M.s x.toNatClampNeg)) a) b)), mkM M.f M.nr M.B M.s M.len (keF M.P (fiM M (M.s x.toNatClampNeg))) M.ru M.fa M.fd M.I M.fm M.sz) else (-3, M)) else (-2, M)
theorem MOk.sy (m : MOk M) : syP M.P := ⟨m.p8, m.pn, m.ps⟩
theorem fiM_8 (m : MOk M) (s : pT) : ∀ i, 8 ≤ i → bt (fiM M s) i = false := fun i hi => by
  rcases Nat.lt_or_ge i 32 with h32 | h32
  · unfold fiM; rw [b_mB _ _ (by omega) i h32, m.ru i hi]; simp
  · exact b_big h32
set_option maxRecDepth 100000 in
set_option maxHeartbeats 400000 in
theorem K_learn {x : Int32} (c : CInv h M) (m : MOk M) (hq : ∀ h', CInv h' (stLearn M x).2 → sOff h h' 0 52 → Q (some (.int (stLearn M x).1)) n h') : Ok 107 [.ref 0, .int x] n h Q := by
  unfold stLearn at hq
  refine ok_of kMX10_learn kCX10_learn (Nat.le_of_ble_eq_true rfl) (fun z => ?_)
  change A z _ _ 0 0 _ 0 [some (.ref 0), some (.int x), none] [] _
  refine go_ok okF1 (C := cdX10_learn) (by rfl) [] 40 (by exact Nat.le_of_ble_eq_true rfl) ?_
  simp (maxSteps := 2000000) only [go, stp, inS, ↓reduceIte, Bool.false_eq_true, Nat.reduceLT, Nat.reduceEqDiff, Nat.reduceAdd, ldI, ldL, ldA, st1, st2, okS, List.getElem?_cons_zero, List.getElem?_cons_succ, List.length_cons, List.length_nil, List.set_cons_zero, List.set_cons_succ, callP, callF, popN, ct, Value.category, cI, List.getD_cons_zero, List.getD_cons_succ, and_self, and_true, true_and, Nat.zero_le, Nat.reduceLeDiff, Nat.add_zero, Nat.zero_add, List.nil_append, List.cons_append, Option.toList_some, Option.toList_none, List.append_nil, hset_ss, true_or, or_true, eq_self, beq_self_eq_true, List.drop_succ_cons, List.drop_zero, swT, swL, hset_ap, not_true_eq_false, not_false_eq_true, true_implies, false_implies, implies_true, Int32.reduceLE, Int32.reduceLT, Int32.reduceAdd, Int32.reduceSub, Int32.reduceOfInt, Int32.reduceToNatClampNeg, i10, i01, Nat.add_left_cancel_iff, Nat.left_eq_add, Nat.add_eq_left, cdX10_learn, F1, c.o]
  refine K_text c (fun t ht ex => ?_) (fun ex => ?_)
  · subst ex
    rw [if_pos (t2 ht), i_cl (show t < 2147483648 by omega)] at hq
    obtain ⟨S, hx, hz⟩ := c.tx ht
    refine go_ok okF1 (C := cdX10_learn) (by rfl) [] 40 (by exact Nat.le_of_ble_eq_true rfl) ?_
    simp (maxSteps := 2000000) only [go, stp, inS, ↓reduceIte, Bool.false_eq_true, Nat.reduceLT, Nat.reduceEqDiff, Nat.reduceAdd, ldI, ldL, ldA, st1, st2, okS, List.getElem?_cons_zero, List.getElem?_cons_succ, List.length_cons, List.length_nil, List.set_cons_zero, List.set_cons_succ, callP, callF, popN, ct, Value.category, cI, List.getD_cons_zero, List.getD_cons_succ, and_self, and_true, true_and, Nat.zero_le, Nat.reduceLeDiff, Nat.add_zero, Nat.zero_add, List.nil_append, List.cons_append, Option.toList_some, Option.toList_none, List.append_nil, hset_ss, true_or, or_true, eq_self, beq_self_eq_true, List.drop_succ_cons, List.drop_zero, swT, swL, hset_ap, not_true_eq_false, not_false_eq_true, true_implies, false_implies, implies_true, Int32.reduceLE, Int32.reduceLT, Int32.reduceAdd, Int32.reduceSub, Int32.reduceOfInt, Int32.reduceToNatClampNeg, i10, i01, Nat.add_left_cancel_iff, Nat.left_eq_add, Nat.add_eq_left, cdX10_learn, F1, hx.1]
    refine X_whole' (c.tx ht) (m.pi t ht) (m.ln t ht) (fun hw => ?_) (fun hw => ?_)
    · refine go_ok okF1 (C := cdX10_learn) (by rfl) [] 40 (by exact Nat.le_of_ble_eq_true rfl) ?_
      simp (maxSteps := 2000000) only [go, stp, inS, ↓reduceIte, Bool.false_eq_true, Nat.reduceLT, Nat.reduceEqDiff, Nat.reduceAdd, ldI, ldL, ldA, st1, st2, okS, List.getElem?_cons_zero, List.getElem?_cons_succ, List.length_cons, List.length_nil, List.set_cons_zero, List.set_cons_succ, callP, callF, popN, ct, Value.category, cI, List.getD_cons_zero, List.getD_cons_succ, and_self, and_true, true_and, Nat.zero_le, Nat.reduceLeDiff, Nat.add_zero, Nat.zero_add, List.nil_append, List.cons_append, Option.toList_some, Option.toList_none, List.append_nil, hset_ss, true_or, or_true, eq_self, beq_self_eq_true, List.drop_succ_cons, List.drop_zero, swT, swL, hset_ap, not_true_eq_false, not_false_eq_true, true_implies, false_implies, implies_true, Int32.reduceLE, Int32.reduceLT, Int32.reduceAdd, Int32.reduceSub, Int32.reduceOfInt, Int32.reduceToNatClampNeg, i10, i01, Nat.add_left_cancel_iff, Nat.left_eq_add, Nat.add_eq_left, cdX10_learn, F1]
      rw [if_neg hw] at hq; exact hq h c sOff.rf
    · refine go_ok okF1 (C := cdX10_learn) (by rfl) [] 40 (by exact Nat.le_of_ble_eq_true rfl) ?_
      simp (maxSteps := 2000000) only [go, stp, inS, ↓reduceIte, Bool.false_eq_true, Nat.reduceLT, Nat.reduceEqDiff, Nat.reduceAdd, ldI, ldL, ldA, st1, st2, okS, List.getElem?_cons_zero, List.getElem?_cons_succ, List.length_cons, List.length_nil, List.set_cons_zero, List.set_cons_succ, callP, callF, popN, ct, Value.category, cI, List.getD_cons_zero, List.getD_cons_succ, and_self, and_true, true_and, Nat.zero_le, Nat.reduceLeDiff, Nat.add_zero, Nat.zero_add, List.nil_append, List.cons_append, Option.toList_some, Option.toList_none, List.append_nil, hset_ss, true_or, or_true, eq_self, beq_self_eq_true, List.drop_succ_cons, List.drop_zero, swT, swL, hset_ap, not_true_eq_false, not_false_eq_true, true_implies, false_implies, implies_true, Int32.reduceLE, Int32.reduceLT, Int32.reduceAdd, Int32.reduceSub, Int32.reduceOfInt, Int32.reduceToNatClampNeg, i10, i01, Nat.add_left_cancel_iff, Nat.left_eq_add, Nat.add_eq_left, cdX10_learn, F1, c.o]
      refine K_firedRules c m (c.ti m ht hw) (fun h' c' _ hO => ?_)
      refine go_ok okF1 (C := cdX10_learn) (by rfl) [] 40 (by exact Nat.le_of_ble_eq_true rfl) ?_
      simp (maxSteps := 2000000) only [go, stp, inS, ↓reduceIte, Bool.false_eq_true, Nat.reduceLT, Nat.reduceEqDiff, Nat.reduceAdd, ldI, ldL, ldA, st1, st2, okS, List.getElem?_cons_zero, List.getElem?_cons_succ, List.length_cons, List.length_nil, List.set_cons_zero, List.set_cons_succ, callP, callF, popN, ct, Value.category, cI, List.getD_cons_zero, List.getD_cons_succ, and_self, and_true, true_and, Nat.zero_le, Nat.reduceLeDiff, Nat.add_zero, Nat.zero_add, List.nil_append, List.cons_append, Option.toList_some, Option.toList_none, List.append_nil, hset_ss, true_or, or_true, eq_self, beq_self_eq_true, List.drop_succ_cons, List.drop_zero, swT, swL, hset_ap, not_true_eq_false, not_false_eq_true, true_implies, false_implies, implies_true, Int32.reduceLE, Int32.reduceLT, Int32.reduceAdd, Int32.reduceSub, Int32.reduceOfInt, Int32.reduceToNatClampNeg, i10, i01, Nat.add_left_cancel_iff, Nat.left_eq_add, Nat.add_eq_left, cdX10_learn, F1, c'.pa.1]
      refine P_keep c'.pa (fun h2 hP hO2 => ?_)
      refine go_ok okF1 (C := cdX10_learn) (by rfl) [] 40 (by exact Nat.le_of_ble_eq_true rfl) ?_
      simp (maxSteps := 2000000) only [go, stp, inS, ↓reduceIte, Bool.false_eq_true, Nat.reduceLT, Nat.reduceEqDiff, Nat.reduceAdd, ldI, ldL, ldA, st1, st2, okS, List.getElem?_cons_zero, List.getElem?_cons_succ, List.length_cons, List.length_nil, List.set_cons_zero, List.set_cons_succ, callP, callF, popN, ct, Value.category, cI, List.getD_cons_zero, List.getD_cons_succ, and_self, and_true, true_and, Nat.zero_le, Nat.reduceLeDiff, Nat.add_zero, Nat.zero_add, List.nil_append, List.cons_append, Option.toList_some, Option.toList_none, List.append_nil, hset_ss, true_or, or_true, eq_self, beq_self_eq_true, List.drop_succ_cons, List.drop_zero, swT, swL, hset_ap, not_true_eq_false, not_false_eq_true, true_implies, false_implies, implies_true, Int32.reduceLE, Int32.reduceLT, Int32.reduceAdd, Int32.reduceSub, Int32.reduceOfInt, Int32.reduceToNatClampNeg, i10, i01, Nat.add_left_cancel_iff, Nat.left_eq_add, Nat.add_eq_left, cdX10_learn, F1]
      rw [if_pos hw] at hq
      rw [← pm_keep m.sy (fiM_8 m _)] at hP
      rw [pm_T (np_sy m.sy (fiM_8 m _))]
      exact hq h2 (CInv.uPa hP c' hO2) ((hO.w (by omega) (by omega)).tr (hO2.w (by omega) (by omega)))
  · refine go_ok okF1 (C := cdX10_learn) (by rfl) [] 40 (by exact Nat.le_of_ble_eq_true rfl) ?_
    simp (maxSteps := 2000000) only [go, stp, inS, ↓reduceIte, Bool.false_eq_true, Nat.reduceLT, Nat.reduceEqDiff, Nat.reduceAdd, ldI, ldL, ldA, st1, st2, okS, List.getElem?_cons_zero, List.getElem?_cons_succ, List.length_cons, List.length_nil, List.set_cons_zero, List.set_cons_succ, callP, callF, popN, ct, Value.category, cI, List.getD_cons_zero, List.getD_cons_succ, and_self, and_true, true_and, Nat.zero_le, Nat.reduceLeDiff, Nat.add_zero, Nat.zero_add, List.nil_append, List.cons_append, Option.toList_some, Option.toList_none, List.append_nil, hset_ss, true_or, or_true, eq_self, beq_self_eq_true, List.drop_succ_cons, List.drop_zero, swT, swL, hset_ap, not_true_eq_false, not_false_eq_true, true_implies, false_implies, implies_true, Int32.reduceLE, Int32.reduceLT, Int32.reduceAdd, Int32.reduceSub, Int32.reduceOfInt, Int32.reduceToNatClampNeg, i10, i01, Nat.add_left_cancel_iff, Nat.left_eq_add, Nat.add_eq_left, cdX10_learn, F1]
    rw [if_neg ex] at hq
    exact hq h c sOff.rf
noncomputable def stLearnt (M : MS) (a b : Int32) : Int32 := if (0 ≤ a ∧ a < 8) ∧ (0 ≤ b ∧ b < 8) ∧ ¬ a = b then (if bt (M.P a.toNatClampNeg) b.toNatClampNeg = true then 1 else 0) else -2
set_option maxRecDepth 100000 in
set_option maxHeartbeats 400000 in
theorem K_learnt {a b : Int32} (c : CInv h M) (hq : Q (some (.int (stLearnt M a b))) n h) : Ok 108 [.ref 0, .int a, .int b] n h Q := by
  unfold stLearnt at hq
  refine ok_of kMX10_learnt kCX10_learnt (Nat.le_of_ble_eq_true rfl) (fun z => ?_)
  change A z _ _ 0 0 _ 0 [some (.ref 0), some (.int a), some (.int b)] [] _
  by_cases ha : 0 ≤ a ∧ a < 8
  · by_cases hb : 0 ≤ b ∧ b < 8
    · by_cases hab : a = b
      · subst hab
        rw [if_neg (fun q => q.2.2 rfl)] at hq
        refine go_ok okF1 (C := cdX10_learnt) (by rfl) [] 40 (by exact Nat.le_of_ble_eq_true rfl) ?_
        simp (maxSteps := 2000000) only [go, stp, inS, ↓reduceIte, Bool.false_eq_true, Nat.reduceLT, Nat.reduceEqDiff, Nat.reduceAdd, ldI, ldL, ldA, st1, st2, okS, List.getElem?_cons_zero, List.getElem?_cons_succ, List.length_cons, List.length_nil, List.set_cons_zero, List.set_cons_succ, callP, callF, popN, ct, Value.category, cI, List.getD_cons_zero, List.getD_cons_succ, and_self, and_true, true_and, Nat.zero_le, Nat.reduceLeDiff, Nat.add_zero, Nat.zero_add, List.nil_append, List.cons_append, Option.toList_some, Option.toList_none, List.append_nil, hset_ss, true_or, or_true, eq_self, beq_self_eq_true, List.drop_succ_cons, List.drop_zero, swT, swL, hset_ap, not_true_eq_false, not_false_eq_true, true_implies, false_implies, implies_true, Int32.reduceLE, Int32.reduceLT, Int32.reduceAdd, Int32.reduceSub, Int32.reduceOfInt, Int32.reduceToNatClampNeg, i10, i01, Nat.add_left_cancel_iff, Nat.left_eq_add, Nat.add_eq_left, cdX10_learnt, F1, eq_true ha]
        exact hq
      · rw [if_pos ⟨ha, hb, hab⟩] at hq
        refine go_ok okF1 (C := cdX10_learnt) (by rfl) [] 40 (by exact Nat.le_of_ble_eq_true rfl) ?_
        simp (maxSteps := 2000000) only [go, stp, inS, ↓reduceIte, Bool.false_eq_true, Nat.reduceLT, Nat.reduceEqDiff, Nat.reduceAdd, ldI, ldL, ldA, st1, st2, okS, List.getElem?_cons_zero, List.getElem?_cons_succ, List.length_cons, List.length_nil, List.set_cons_zero, List.set_cons_succ, callP, callF, popN, ct, Value.category, cI, List.getD_cons_zero, List.getD_cons_succ, and_self, and_true, true_and, Nat.zero_le, Nat.reduceLeDiff, Nat.add_zero, Nat.zero_add, List.nil_append, List.cons_append, Option.toList_some, Option.toList_none, List.append_nil, hset_ss, true_or, or_true, eq_self, beq_self_eq_true, List.drop_succ_cons, List.drop_zero, swT, swL, hset_ap, not_true_eq_false, not_false_eq_true, true_implies, false_implies, implies_true, Int32.reduceLE, Int32.reduceLT, Int32.reduceAdd, Int32.reduceSub, Int32.reduceOfInt, Int32.reduceToNatClampNeg, i10, i01, Nat.add_left_cancel_iff, Nat.left_eq_add, Nat.add_eq_left, cdX10_learnt, F1, eq_true ha, eq_true hb, hab, c.o, c.pa.1]
        obtain ⟨i, hi, rfl⟩ := i_of (n := 8) (by omega) (i_nlt.mpr ha.1) ha.2
        obtain ⟨j, hj, rfl⟩ := i_of (n := 8) (by omega) (i_nlt.mpr hb.1) hb.2
        rw [i_cl (show i < 2147483648 by omega), i_cl (show j < 2147483648 by omega)] at hq
        refine P_isKept c.pa hi hj ?_
        by_cases hk : bt (M.P i) j = true
        · rw [if_pos hk] at hq ⊢
          refine go_ok okF1 (C := cdX10_learnt) (by rfl) [] 40 (by exact Nat.le_of_ble_eq_true rfl) ?_
          simp (maxSteps := 2000000) only [go, stp, inS, ↓reduceIte, Bool.false_eq_true, Nat.reduceLT, Nat.reduceEqDiff, Nat.reduceAdd, ldI, ldL, ldA, st1, st2, okS, List.getElem?_cons_zero, List.getElem?_cons_succ, List.length_cons, List.length_nil, List.set_cons_zero, List.set_cons_succ, callP, callF, popN, ct, Value.category, cI, List.getD_cons_zero, List.getD_cons_succ, and_self, and_true, true_and, Nat.zero_le, Nat.reduceLeDiff, Nat.add_zero, Nat.zero_add, List.nil_append, List.cons_append, Option.toList_some, Option.toList_none, List.append_nil, hset_ss, true_or, or_true, eq_self, beq_self_eq_true, List.drop_succ_cons, List.drop_zero, swT, swL, hset_ap, not_true_eq_false, not_false_eq_true, true_implies, false_implies, implies_true, Int32.reduceLE, Int32.reduceLT, Int32.reduceAdd, Int32.reduceSub, Int32.reduceOfInt, Int32.reduceToNatClampNeg, i10, i01, Nat.add_left_cancel_iff, Nat.left_eq_add, Nat.add_eq_left, cdX10_learnt, F1]
          exact hq
        · rw [if_neg hk] at hq ⊢
          refine go_ok okF1 (C := cdX10_learnt) (by rfl) [] 40 (by exact Nat.le_of_ble_eq_true rfl) ?_
          simp (maxSteps := 2000000) only [go, stp, inS, ↓reduceIte, Bool.false_eq_true, Nat.reduceLT, Nat.reduceEqDiff, Nat.reduceAdd, ldI, ldL, ldA, st1, st2, okS, List.getElem?_cons_zero, List.getElem?_cons_succ, List.length_cons, List.length_nil, List.set_cons_zero, List.set_cons_succ, callP, callF, popN, ct, Value.category, cI, List.getD_cons_zero, List.getD_cons_succ, and_self, and_true, true_and, Nat.zero_le, Nat.reduceLeDiff, Nat.add_zero, Nat.zero_add, List.nil_append, List.cons_append, Option.toList_some, Option.toList_none, List.append_nil, hset_ss, true_or, or_true, eq_self, beq_self_eq_true, List.drop_succ_cons, List.drop_zero, swT, swL, hset_ap, not_true_eq_false, not_false_eq_true, true_implies, false_implies, implies_true, Int32.reduceLE, Int32.reduceLT, Int32.reduceAdd, Int32.reduceSub, Int32.reduceOfInt, Int32.reduceToNatClampNeg, i10, i01, Nat.add_left_cancel_iff, Nat.left_eq_add, Nat.add_eq_left, cdX10_learnt, F1]
          exact hq
    · rw [if_neg (fun q => hb q.2.1)] at hq
      refine go_ok okF1 (C := cdX10_learnt) (by rfl) [] 40 (by exact Nat.le_of_ble_eq_true rfl) ?_
      simp (maxSteps := 2000000) only [go, stp, inS, ↓reduceIte, Bool.false_eq_true, Nat.reduceLT, Nat.reduceEqDiff, Nat.reduceAdd, ldI, ldL, ldA, st1, st2, okS, List.getElem?_cons_zero, List.getElem?_cons_succ, List.length_cons, List.length_nil, List.set_cons_zero, List.set_cons_succ, callP, callF, popN, ct, Value.category, cI, List.getD_cons_zero, List.getD_cons_succ, and_self, and_true, true_and, Nat.zero_le, Nat.reduceLeDiff, Nat.add_zero, Nat.zero_add, List.nil_append, List.cons_append, Option.toList_some, Option.toList_none, List.append_nil, hset_ss, true_or, or_true, eq_self, beq_self_eq_true, List.drop_succ_cons, List.drop_zero, swT, swL, hset_ap, not_true_eq_false, not_false_eq_true, true_implies, false_implies, implies_true, Int32.reduceLE, Int32.reduceLT, Int32.reduceAdd, Int32.reduceSub, Int32.reduceOfInt, Int32.reduceToNatClampNeg, i10, i01, Nat.add_left_cancel_iff, Nat.left_eq_add, Nat.add_eq_left, cdX10_learnt, F1, eq_true ha, eq_false hb]
      exact hq
  · rw [if_neg (fun q => ha q.1)] at hq
    refine go_ok okF1 (C := cdX10_learnt) (by rfl) [] 40 (by exact Nat.le_of_ble_eq_true rfl) ?_
    simp (maxSteps := 2000000) only [go, stp, inS, ↓reduceIte, Bool.false_eq_true, Nat.reduceLT, Nat.reduceEqDiff, Nat.reduceAdd, ldI, ldL, ldA, st1, st2, okS, List.getElem?_cons_zero, List.getElem?_cons_succ, List.length_cons, List.length_nil, List.set_cons_zero, List.set_cons_succ, callP, callF, popN, ct, Value.category, cI, List.getD_cons_zero, List.getD_cons_succ, and_self, and_true, true_and, Nat.zero_le, Nat.reduceLeDiff, Nat.add_zero, Nat.zero_add, List.nil_append, List.cons_append, Option.toList_some, Option.toList_none, List.append_nil, hset_ss, true_or, or_true, eq_self, beq_self_eq_true, List.drop_succ_cons, List.drop_zero, swT, swL, hset_ap, not_true_eq_false, not_false_eq_true, true_implies, false_implies, implies_true, Int32.reduceLE, Int32.reduceLT, Int32.reduceAdd, Int32.reduceSub, Int32.reduceOfInt, Int32.reduceToNatClampNeg, i10, i01, Nat.add_left_cancel_iff, Nat.left_eq_add, Nat.add_eq_left, cdX10_learnt, F1, eq_false ha]
    exact hq
def g0 (seed : Int32) (r : Nat) : pT := pfold (pz (fun _ => 0) (fun _ => 0) (fun _ => 0)) 0 (grB seed r)
noncomputable def nxP (M : MS) (seed : Int32) (r k : Nat) : Bool := anyB 8 (fun q => !(npF M.P (fiM M (g0 (seed + nI k) r)) q == 0))
noncomputable def stNext (M : MS) (seed r : Int32) : Int32 := if 1 ≤ r ∧ r ≤ 9 then (match fstR (nxP M seed r.toNatClampNeg) 30 0 with
  | some k => nI k
  | none => -1) else -2
set_option maxRecDepth 100000 in
set_option maxHeartbeats 400000 in
theorem K_next {seed r : Int32} (c : CInv h M) (m : MOk M) (hq : ∀ h', CInv h' M → sOff h h' 0 52 → Q (some (.int (stNext M seed r))) n h') : Ok 109 [.ref 0, .int seed, .int r] n h Q := by
  unfold stNext at hq
  refine ok_of kMX10_next kCX10_next (Nat.le_of_ble_eq_true rfl) (fun z => ?_)
  change A z _ _ 0 0 _ 0 [some (.ref 0), some (.int seed), some (.int r), none] [] _
  by_cases hr : 1 ≤ r ∧ r ≤ 9
  · rw [if_pos hr] at hq
    obtain ⟨j, h1, h9, rfl⟩ := i_rng (a := 1) (b := 9) (by omega) hr.1 hr.2 (by omega)
    rw [i_cl (show j < 2147483648 by omega)] at hq
    refine go_ok okF1 (C := cdX10_next) (by rfl) [12] 40 (by exact Nat.le_of_ble_eq_true rfl) ?_
    simp (maxSteps := 2000000) only [go, stp, inS, ↓reduceIte, Bool.false_eq_true, Nat.reduceLT, Nat.reduceEqDiff, Nat.reduceAdd, ldI, ldL, ldA, st1, st2, okS, List.getElem?_cons_zero, List.getElem?_cons_succ, List.length_cons, List.length_nil, List.set_cons_zero, List.set_cons_succ, callP, callF, popN, ct, Value.category, cI, List.getD_cons_zero, List.getD_cons_succ, and_self, and_true, true_and, Nat.zero_le, Nat.reduceLeDiff, Nat.add_zero, Nat.zero_add, List.nil_append, List.cons_append, Option.toList_some, Option.toList_none, List.append_nil, hset_ss, true_or, or_true, eq_self, beq_self_eq_true, List.drop_succ_cons, List.drop_zero, swT, swL, hset_ap, not_true_eq_false, not_false_eq_true, true_implies, false_implies, implies_true, Int32.reduceLE, Int32.reduceLT, Int32.reduceAdd, Int32.reduceSub, Int32.reduceOfInt, Int32.reduceToNatClampNeg, i10, i01, Nat.add_left_cancel_iff, Nat.left_eq_add, Nat.add_eq_left, cdX10_next, F1, eq_true hr]
    have loop : ∀ q i (h' : aH), i + q = 30 → CInv h' M → sOff h h' 0 52 → fstR (nxP M seed j) 30 0 = fstR (nxP M seed j) q i → A z 109 n 0 0 h' 12 [some (.ref 0), some (.int seed), some (.int (nI j)), some (.int (nI i))] [] Q := by
      intro q
      induction q with
      | zero =>
        intro i h' hi c' hO hf
        obtain rfl : i = 30 := by omega
        refine go_ok okF1 (C := cdX10_next) (by rfl) [] 40 (by exact Nat.le_of_ble_eq_true rfl) ?_
        simp (maxSteps := 2000000) only [go, stp, inS, ↓reduceIte, Bool.false_eq_true, Nat.reduceLT, Nat.reduceEqDiff, Nat.reduceAdd, ldI, ldL, ldA, st1, st2, okS, List.getElem?_cons_zero, List.getElem?_cons_succ, List.length_cons, List.length_nil, List.set_cons_zero, List.set_cons_succ, callP, callF, popN, ct, Value.category, cI, List.getD_cons_zero, List.getD_cons_succ, and_self, and_true, true_and, Nat.zero_le, Nat.reduceLeDiff, Nat.add_zero, Nat.zero_add, List.nil_append, List.cons_append, Option.toList_some, Option.toList_none, List.append_nil, hset_ss, true_or, or_true, eq_self, beq_self_eq_true, List.drop_succ_cons, List.drop_zero, swT, swL, hset_ap, not_true_eq_false, not_false_eq_true, true_implies, false_implies, implies_true, Int32.reduceLE, Int32.reduceLT, Int32.reduceAdd, Int32.reduceSub, Int32.reduceOfInt, Int32.reduceToNatClampNeg, i10, i01, Nat.add_left_cancel_iff, Nat.left_eq_add, Nat.add_eq_left, cdX10_next, F1, (show (30 : Int32) ≤ nI 30 by decide)]
        have := hq h' c' hO
        rw [hf] at this
        exact this
      | succ q ih =>
        intro i h' hi c' hO hf
        have e : ¬ 30 ≤ nI i := by rw [show (30 : Int32) = nI 30 from rfl, i_le (by omega) (by omega)]; omega
        obtain ⟨Rm, w, sd, hG⟩ := c'.gr
        obtain ⟨B, G, S, L, R, len, ac, ot, om, mi, sk, hx⟩ := c'.sp
        refine go_ok okF1 (C := cdX10_next) (by rfl) [] 40 (by exact Nat.le_of_ble_eq_true rfl) ?_
        simp (maxSteps := 2000000) only [go, stp, inS, ↓reduceIte, Bool.false_eq_true, Nat.reduceLT, Nat.reduceEqDiff, Nat.reduceAdd, ldI, ldL, ldA, st1, st2, okS, List.getElem?_cons_zero, List.getElem?_cons_succ, List.length_cons, List.length_nil, List.set_cons_zero, List.set_cons_succ, callP, callF, popN, ct, Value.category, cI, List.getD_cons_zero, List.getD_cons_succ, and_self, and_true, true_and, Nat.zero_le, Nat.reduceLeDiff, Nat.add_zero, Nat.zero_add, List.nil_append, List.cons_append, Option.toList_some, Option.toList_none, List.append_nil, hset_ss, true_or, or_true, eq_self, beq_self_eq_true, List.drop_succ_cons, List.drop_zero, swT, swL, hset_ap, not_true_eq_false, not_false_eq_true, true_implies, false_implies, implies_true, Int32.reduceLE, Int32.reduceLT, Int32.reduceAdd, Int32.reduceSub, Int32.reduceOfInt, Int32.reduceToNatClampNeg, i10, i01, Nat.add_left_cancel_iff, Nat.left_eq_add, Nat.add_eq_left, cdX10_next, F1, e, c'.o, (show h' 30 = _ from hG.1)]
        refine G_into hG hx (by omega) h1 h9 (fun h2 Rm' w' sd' hG' hX' hO2 => ?_)
        have c1 : CInv (fun q => if q = 30 ∨ q = 31 then h2 q else h' q) M := CInv.uGr (Rm := Rm') (w := w') (sd := sd') ⟨hG'.1, hG'.2⟩ c' (fun q hq => by simp [show ¬ (q = 30 ∨ q = 31) by omega])
        obtain ⟨S', hx', hz', hI'⟩ := id hX'
        have c2 : CInv h2 M := CInv.uSp hx' c1 (fun q hq => by
          by_cases e : q = 30 ∨ q = 31
          · simp [e]
          · simp only [if_neg e]; exact hO2 q (by omega) (by omega))
        have hok := grB_ok G L R (seed + nI i) h1 h9
        have hT : tI h2 16 (pfold (pz G L R) 0 (grB (seed + nI i) j)) := ⟨_, _, ⟨S', hx', hz'⟩, hI', by omega, pwB_iff.mpr hok.2, by omega, by omega⟩
        refine go_ok okF1 (C := cdX10_next) (by rfl) [] 40 (by exact Nat.le_of_ble_eq_true rfl) ?_
        simp (maxSteps := 2000000) only [go, stp, inS, ↓reduceIte, Bool.false_eq_true, Nat.reduceLT, Nat.reduceEqDiff, Nat.reduceAdd, ldI, ldL, ldA, st1, st2, okS, List.getElem?_cons_zero, List.getElem?_cons_succ, List.length_cons, List.length_nil, List.set_cons_zero, List.set_cons_succ, callP, callF, popN, ct, Value.category, cI, List.getD_cons_zero, List.getD_cons_succ, and_self, and_true, true_and, Nat.zero_le, Nat.reduceLeDiff, Nat.add_zero, Nat.zero_add, List.nil_append, List.cons_append, Option.toList_some, Option.toList_none, List.append_nil, hset_ss, true_or, or_true, eq_self, beq_self_eq_true, List.drop_succ_cons, List.drop_zero, swT, swL, hset_ap, not_true_eq_false, not_false_eq_true, true_implies, false_implies, implies_true, Int32.reduceLE, Int32.reduceLT, Int32.reduceAdd, Int32.reduceSub, Int32.reduceOfInt, Int32.reduceToNatClampNeg, i10, i01, Nat.add_left_cancel_iff, Nat.left_eq_add, Nat.add_eq_left, cdX10_next, F1, c2.o]
        refine K_firedRules c2 m hT (fun h3 c3 _ hO3 => ?_)
        have hfi : fiM M (pfold (pz G L R) 0 (grB (seed + nI i) j)) = fiM M (g0 (seed + nI i) j) := (fiM_pR hI' hok.2 (by
          have := (pR_fold (grB (seed + nI i) j) (pI_0 G L R) (pR_z G L R (fun _ => 0) (fun _ => 0) (fun _ => 0))).2
          exact this) hT.ac.1).symm
        rw [hfi]
        refine go_ok okF1 (C := cdX10_next) (by rfl) [] 40 (by exact Nat.le_of_ble_eq_true rfl) ?_
        simp (maxSteps := 2000000) only [go, stp, inS, ↓reduceIte, Bool.false_eq_true, Nat.reduceLT, Nat.reduceEqDiff, Nat.reduceAdd, ldI, ldL, ldA, st1, st2, okS, List.getElem?_cons_zero, List.getElem?_cons_succ, List.length_cons, List.length_nil, List.set_cons_zero, List.set_cons_succ, callP, callF, popN, ct, Value.category, cI, List.getD_cons_zero, List.getD_cons_succ, and_self, and_true, true_and, Nat.zero_le, Nat.reduceLeDiff, Nat.add_zero, Nat.zero_add, List.nil_append, List.cons_append, Option.toList_some, Option.toList_none, List.append_nil, hset_ss, true_or, or_true, eq_self, beq_self_eq_true, List.drop_succ_cons, List.drop_zero, swT, swL, hset_ap, not_true_eq_false, not_false_eq_true, true_implies, false_implies, implies_true, Int32.reduceLE, Int32.reduceLT, Int32.reduceAdd, Int32.reduceSub, Int32.reduceOfInt, Int32.reduceToNatClampNeg, i10, i01, Nat.add_left_cancel_iff, Nat.left_eq_add, Nat.add_eq_left, cdX10_next, F1, c3.pa.1]
        refine P_hasNew c3.pa ?_
        change A z 109 n 0 0 h3 48 _ (some (Value.int (if nxP M seed j i = true then 1 else 0))).toList Q
        have hO4 : sOff h h3 0 52 := fun q hq => by rw [hO3 q (by omega), hO2 q (by omega) (by omega)]; exact hO q hq
        by_cases hp : nxP M seed j i = true
        · rw [if_pos hp]
          refine go_ok okF1 (C := cdX10_next) (by rfl) [] 40 (by exact Nat.le_of_ble_eq_true rfl) ?_
          simp (maxSteps := 2000000) only [go, stp, inS, ↓reduceIte, Bool.false_eq_true, Nat.reduceLT, Nat.reduceEqDiff, Nat.reduceAdd, ldI, ldL, ldA, st1, st2, okS, List.getElem?_cons_zero, List.getElem?_cons_succ, List.length_cons, List.length_nil, List.set_cons_zero, List.set_cons_succ, callP, callF, popN, ct, Value.category, cI, List.getD_cons_zero, List.getD_cons_succ, and_self, and_true, true_and, Nat.zero_le, Nat.reduceLeDiff, Nat.add_zero, Nat.zero_add, List.nil_append, List.cons_append, Option.toList_some, Option.toList_none, List.append_nil, hset_ss, true_or, or_true, eq_self, beq_self_eq_true, List.drop_succ_cons, List.drop_zero, swT, swL, hset_ap, not_true_eq_false, not_false_eq_true, true_implies, false_implies, implies_true, Int32.reduceLE, Int32.reduceLT, Int32.reduceAdd, Int32.reduceSub, Int32.reduceOfInt, Int32.reduceToNatClampNeg, i10, i01, Nat.add_left_cancel_iff, Nat.left_eq_add, Nat.add_eq_left, cdX10_next, F1]
          have := hq h3 c3 hO4
          rw [hf, fstR_s, if_pos hp] at this
          exact this
        · rw [if_neg hp]
          refine go_ok okF1 (C := cdX10_next) (by rfl) [12] 40 (by exact Nat.le_of_ble_eq_true rfl) ?_
          simp (maxSteps := 2000000) only [go, stp, inS, ↓reduceIte, Bool.false_eq_true, Nat.reduceLT, Nat.reduceEqDiff, Nat.reduceAdd, ldI, ldL, ldA, st1, st2, okS, List.getElem?_cons_zero, List.getElem?_cons_succ, List.length_cons, List.length_nil, List.set_cons_zero, List.set_cons_succ, callP, callF, popN, ct, Value.category, cI, List.getD_cons_zero, List.getD_cons_succ, and_self, and_true, true_and, Nat.zero_le, Nat.reduceLeDiff, Nat.add_zero, Nat.zero_add, List.nil_append, List.cons_append, Option.toList_some, Option.toList_none, List.append_nil, hset_ss, true_or, or_true, eq_self, beq_self_eq_true, List.drop_succ_cons, List.drop_zero, swT, swL, hset_ap, not_true_eq_false, not_false_eq_true, true_implies, false_implies, implies_true, Int32.reduceLE, Int32.reduceLT, Int32.reduceAdd, Int32.reduceSub, Int32.reduceOfInt, Int32.reduceToNatClampNeg, i10, i01, Nat.add_left_cancel_iff, Nat.left_eq_add, Nat.add_eq_left, cdX10_next, F1, nI_1]
          exact ih (i + 1) h3 (by omega) c3 hO4 (by rw [hf, fstR_s, if_neg hp])
    exact loop 30 0 h (by omega) c sOff.rf rfl
  · rw [if_neg hr] at hq
    refine go_ok okF1 (C := cdX10_next) (by rfl) [] 40 (by exact Nat.le_of_ble_eq_true rfl) ?_
    simp (maxSteps := 2000000) only [go, stp, inS, ↓reduceIte, Bool.false_eq_true, Nat.reduceLT, Nat.reduceEqDiff, Nat.reduceAdd, ldI, ldL, ldA, st1, st2, okS, List.getElem?_cons_zero, List.getElem?_cons_succ, List.length_cons, List.length_nil, List.set_cons_zero, List.set_cons_succ, callP, callF, popN, ct, Value.category, cI, List.getD_cons_zero, List.getD_cons_succ, and_self, and_true, true_and, Nat.zero_le, Nat.reduceLeDiff, Nat.add_zero, Nat.zero_add, List.nil_append, List.cons_append, Option.toList_some, Option.toList_none, List.append_nil, hset_ss, true_or, or_true, eq_self, beq_self_eq_true, List.drop_succ_cons, List.drop_zero, swT, swL, hset_ap, not_true_eq_false, not_false_eq_true, true_implies, false_implies, implies_true, Int32.reduceLE, Int32.reduceLT, Int32.reduceAdd, Int32.reduceSub, Int32.reduceOfInt, Int32.reduceToNatClampNeg, i10, i01, Nat.add_left_cancel_iff, Nat.left_eq_add, Nat.add_eq_left, cdX10_next, F1, eq_false hr]
    exact hq h c sOff.rf
noncomputable def smB (s : pT) (law : Nat) (dn : Int32) : Bool := anyB 24 (fun i => bkS s smTf 12 law dn 0 (TmF i))
theorem sm_bk {s : pT} {f Tm : Nat → Int32} {law : Nat} {dn : Int32} (hs : sOk s) (hf : ∀ q, q < 36 → f q = smTf q) (hT : ∀ i, i < 24 → Tm i = TmF i) : anyB 24 (fun i => bkE law (bt dn) (sG s) s.1 (sL s) (sR s) f 12 0 (Tm i)) = smB s law dn := by
  unfold smB
  refine anyB_ext fun i hi => ?_
  rw [hT i hi]
  exact bkS_ext hs (by omega) hf hs.1
theorem br_one {bk : Nat → Nat → Bool} {law : Nat} (hl : law < 7) : brM bk ((1 : Int32) <<< (nI law &&& 31)) = 0 ↔ anyB 24 (bk law) = false := by
  unfold brM
  rw [mB0 (by omega)]
  constructor
  · intro q
    rw [Bool.eq_false_iff] at q ⊢
    intro w
    exact q (anyB_iff.mpr ⟨law, hl, by rw [b_pw law (by omega) law (by omega), w]; simp⟩)
  · intro q
    rw [Bool.eq_false_iff]
    intro w
    obtain ⟨i, hi, hb⟩ := anyB_iff.mp w
    rw [b_pw law (by omega) i (by omega)] at hb
    simp only [Bool.and_eq_true, decide_eq_true_eq] at hb
    obtain ⟨rfl, hb⟩ := hb
    rw [q] at hb; cases hb
theorem smP_of {s : pT} (c : CInv h M) (hT : tI h 4 s) : ∃ Tm f sE S, (∀ i, i < 24 → Tm i = TmF i) ∧ (∀ q, q < 36 → f q = smTf q) ∧ smG 34 4 f sE (sG s) S (sL s) (sR s) s.1 ∧ smP h 34 4 Tm f sE (sG s) S (sL s) (sR s) s.1 := by
  obtain ⟨Tm, f, sE, al, dn, fi, W, a1, a2, a3, a4, a5, a6, a7⟩ := c.sm
  have hT2 := hT
  obtain ⟨B, len, b1, b2, b3, b4, b5, b6⟩ := hT2
  obtain ⟨S, hTx, hk⟩ := s_txOk b1 b2 b3 b4
  exact ⟨Tm, f, sE, S, a2, a7, ⟨a6, hk, by omega, hT.ac.1⟩, ⟨a1, a3, ⟨al, dn, fi, W, a4⟩, a5, hTx⟩⟩
theorem smC_of {h' : aH} {Tm f sE G S L R W : Nat → Int32} {ac : Nat} {dn : Int32} (hS : smS h' 34 4 Tm f sE G S L R ac dn W) (a2 : ∀ i, i < 24 → Tm i = TmF i) (a6 : SEok f sE 12) (a7 : ∀ q, q < 36 → f q = smTf q) : smC h' := by
  obtain ⟨w1, ⟨w2, ⟨fi, w3⟩, w4⟩, -, -⟩ := hS
  exact ⟨Tm, f, sE, _, dn, fi, W, w1, a2, w2, w3, w4, a6, a7⟩
theorem K_smalls {law : Nat} {dn : Int32} {s : pT} (c : CInv h M) (hT : tI h 4 s) (hl : law < 7) (hq0 : smB s law dn = false → ∀ h', CInv h' M → sOff h h' 0 52 → Q (some (.int 0)) n h') (hq1 : smB s law dn = true → ∀ h' v, ¬ v = 0 → CInv h' M → sOff h h' 0 52 → Q (some (.int v)) n h') : Ok 50 [.ref 34, .ref 4, .int dn, .int ((1 : Int32) <<< (nI law &&& 31))] n h Q := by
  obtain ⟨Tm, f, sE, S, a1, a2, a3, a4⟩ := smP_of c hT
  refine Z_quarrelsOf a3 a4 (fun h' W' w' hO => ?_)
  have c' : CInv h' M := CInv.uSm (smC_of w' a1 a3.1 a2) c (hO.w (by omega) (by omega))
  have hO2 : sOff h h' 0 52 := hO.w (by omega) (by omega)
  have e := br_one (bk := fun law i => bkE law (bt dn) (sG s) s.1 (sL s) (sR s) f 12 0 (Tm i)) hl
  rw [sm_bk hT.ok a2 a1] at e
  by_cases hb : smB s law dn = true
  · exact hq1 hb h' _ (fun q => by rw [e.mp q] at hb; cases hb) c' hO2
  · rw [e.mpr (Bool.eq_false_iff.mpr hb)]
    exact hq0 (Bool.eq_false_iff.mpr hb) h' c' hO2
noncomputable def stHolds (M : MS) (l : Int32) : Int32 := if 0 ≤ l ∧ l < 7 then (if pwB (M.s 0) = true then (if smB (M.s 0) l.toNatClampNeg 0 = true then 0 else 1) else -3) else -2
set_option maxRecDepth 100000 in
set_option maxHeartbeats 400000 in
theorem K_holds {l : Int32} (c : CInv h M) (m : MOk M) (hq : ∀ h', CInv h' M → sOff h h' 0 52 → Q (some (.int (stHolds M l))) n h') : Ok 110 [.ref 0, .int l] n h Q := by
  unfold stHolds at hq
  refine ok_of kMX10_holds kCX10_holds (Nat.le_of_ble_eq_true rfl) (fun z => ?_)
  change A z _ _ 0 0 _ 0 [some (.ref 0), some (.int l)] [] _
  by_cases hl : 0 ≤ l ∧ l < 7
  · rw [if_pos hl] at hq
    obtain ⟨S, hx, hz⟩ := c.t0
    refine go_ok okF1 (C := cdX10_holds) (by rfl) [] 40 (by exact Nat.le_of_ble_eq_true rfl) ?_
    simp (maxSteps := 2000000) only [go, stp, inS, ↓reduceIte, Bool.false_eq_true, Nat.reduceLT, Nat.reduceEqDiff, Nat.reduceAdd, ldI, ldL, ldA, st1, st2, okS, List.getElem?_cons_zero, List.getElem?_cons_succ, List.length_cons, List.length_nil, List.set_cons_zero, List.set_cons_succ, callP, callF, popN, ct, Value.category, cI, List.getD_cons_zero, List.getD_cons_succ, and_self, and_true, true_and, Nat.zero_le, Nat.reduceLeDiff, Nat.add_zero, Nat.zero_add, List.nil_append, List.cons_append, Option.toList_some, Option.toList_none, List.append_nil, hset_ss, true_or, or_true, eq_self, beq_self_eq_true, List.drop_succ_cons, List.drop_zero, swT, swL, hset_ap, not_true_eq_false, not_false_eq_true, true_implies, false_implies, implies_true, Int32.reduceLE, Int32.reduceLT, Int32.reduceAdd, Int32.reduceSub, Int32.reduceOfInt, Int32.reduceToNatClampNeg, i10, i01, Nat.add_left_cancel_iff, Nat.left_eq_add, Nat.add_eq_left, cdX10_holds, F1, eq_true hl, c.o, hx.1]
    obtain ⟨law, hlaw, rfl⟩ := i_of (n := 7) (by omega) (i_nlt.mpr hl.1) hl.2
    rw [i_cl (show law < 2147483648 by omega)] at hq
    refine X_whole' c.t0 (m.pi 0 (by omega)) (m.ln 0 (by omega)) (fun hw => ?_) (fun hw => ?_)
    · refine go_ok okF1 (C := cdX10_holds) (by rfl) [] 40 (by exact Nat.le_of_ble_eq_true rfl) ?_
      simp (maxSteps := 2000000) only [go, stp, inS, ↓reduceIte, Bool.false_eq_true, Nat.reduceLT, Nat.reduceEqDiff, Nat.reduceAdd, ldI, ldL, ldA, st1, st2, okS, List.getElem?_cons_zero, List.getElem?_cons_succ, List.length_cons, List.length_nil, List.set_cons_zero, List.set_cons_succ, callP, callF, popN, ct, Value.category, cI, List.getD_cons_zero, List.getD_cons_succ, and_self, and_true, true_and, Nat.zero_le, Nat.reduceLeDiff, Nat.add_zero, Nat.zero_add, List.nil_append, List.cons_append, Option.toList_some, Option.toList_none, List.append_nil, hset_ss, true_or, or_true, eq_self, beq_self_eq_true, List.drop_succ_cons, List.drop_zero, swT, swL, hset_ap, not_true_eq_false, not_false_eq_true, true_implies, false_implies, implies_true, Int32.reduceLE, Int32.reduceLT, Int32.reduceAdd, Int32.reduceSub, Int32.reduceOfInt, Int32.reduceToNatClampNeg, i10, i01, Nat.add_left_cancel_iff, Nat.left_eq_add, Nat.add_eq_left, cdX10_holds, F1]
      rw [if_neg hw] at hq; exact hq h c sOff.rf
    · rw [if_pos hw] at hq
      obtain ⟨Tm, f, sE, al, dn, fi, W, hsm, -⟩ := c.sm
      refine go_ok okF1 (C := cdX10_holds) (by rfl) [] 40 (by exact Nat.le_of_ble_eq_true rfl) ?_
      simp (maxSteps := 2000000) only [go, stp, inS, ↓reduceIte, Bool.false_eq_true, Nat.reduceLT, Nat.reduceEqDiff, Nat.reduceAdd, ldI, ldL, ldA, st1, st2, okS, List.getElem?_cons_zero, List.getElem?_cons_succ, List.length_cons, List.length_nil, List.set_cons_zero, List.set_cons_succ, callP, callF, popN, ct, Value.category, cI, List.getD_cons_zero, List.getD_cons_succ, and_self, and_true, true_and, Nat.zero_le, Nat.reduceLeDiff, Nat.add_zero, Nat.zero_add, List.nil_append, List.cons_append, Option.toList_some, Option.toList_none, List.append_nil, hset_ss, true_or, or_true, eq_self, beq_self_eq_true, List.drop_succ_cons, List.drop_zero, swT, swL, hset_ap, not_true_eq_false, not_false_eq_true, true_implies, false_implies, implies_true, Int32.reduceLE, Int32.reduceLT, Int32.reduceAdd, Int32.reduceSub, Int32.reduceOfInt, Int32.reduceToNatClampNeg, i10, i01, Nat.add_left_cancel_iff, Nat.left_eq_add, Nat.add_eq_left, cdX10_holds, F1, c.o, hsm.1]
      refine K_smalls c (c.ti m (t := 0) (by omega) hw) hlaw (fun hb h' c' hO => ?_) (fun hb h' v hv c' hO => ?_)
      · refine go_ok okF1 (C := cdX10_holds) (by rfl) [] 40 (by exact Nat.le_of_ble_eq_true rfl) ?_
        simp (maxSteps := 2000000) only [go, stp, inS, ↓reduceIte, Bool.false_eq_true, Nat.reduceLT, Nat.reduceEqDiff, Nat.reduceAdd, ldI, ldL, ldA, st1, st2, okS, List.getElem?_cons_zero, List.getElem?_cons_succ, List.length_cons, List.length_nil, List.set_cons_zero, List.set_cons_succ, callP, callF, popN, ct, Value.category, cI, List.getD_cons_zero, List.getD_cons_succ, and_self, and_true, true_and, Nat.zero_le, Nat.reduceLeDiff, Nat.add_zero, Nat.zero_add, List.nil_append, List.cons_append, Option.toList_some, Option.toList_none, List.append_nil, hset_ss, true_or, or_true, eq_self, beq_self_eq_true, List.drop_succ_cons, List.drop_zero, swT, swL, hset_ap, not_true_eq_false, not_false_eq_true, true_implies, false_implies, implies_true, Int32.reduceLE, Int32.reduceLT, Int32.reduceAdd, Int32.reduceSub, Int32.reduceOfInt, Int32.reduceToNatClampNeg, i10, i01, Nat.add_left_cancel_iff, Nat.left_eq_add, Nat.add_eq_left, cdX10_holds, F1]
        rw [if_neg (by rw [hb]; decide)] at hq; exact hq h' c' hO
      · refine go_ok okF1 (C := cdX10_holds) (by rfl) [] 40 (by exact Nat.le_of_ble_eq_true rfl) ?_
        simp (maxSteps := 2000000) only [go, stp, inS, ↓reduceIte, Bool.false_eq_true, Nat.reduceLT, Nat.reduceEqDiff, Nat.reduceAdd, ldI, ldL, ldA, st1, st2, okS, List.getElem?_cons_zero, List.getElem?_cons_succ, List.length_cons, List.length_nil, List.set_cons_zero, List.set_cons_succ, callP, callF, popN, ct, Value.category, cI, List.getD_cons_zero, List.getD_cons_succ, and_self, and_true, true_and, Nat.zero_le, Nat.reduceLeDiff, Nat.add_zero, Nat.zero_add, List.nil_append, List.cons_append, Option.toList_some, Option.toList_none, List.append_nil, hset_ss, true_or, or_true, eq_self, beq_self_eq_true, List.drop_succ_cons, List.drop_zero, swT, swL, hset_ap, not_true_eq_false, not_false_eq_true, true_implies, false_implies, implies_true, Int32.reduceLE, Int32.reduceLT, Int32.reduceAdd, Int32.reduceSub, Int32.reduceOfInt, Int32.reduceToNatClampNeg, i10, i01, Nat.add_left_cancel_iff, Nat.left_eq_add, Nat.add_eq_left, cdX10_holds, F1, hv]
        rw [if_pos hb] at hq; exact hq h' c' hO
  · rw [if_neg hl] at hq
    refine go_ok okF1 (C := cdX10_holds) (by rfl) [] 40 (by exact Nat.le_of_ble_eq_true rfl) ?_
    simp (maxSteps := 2000000) only [go, stp, inS, ↓reduceIte, Bool.false_eq_true, Nat.reduceLT, Nat.reduceEqDiff, Nat.reduceAdd, ldI, ldL, ldA, st1, st2, okS, List.getElem?_cons_zero, List.getElem?_cons_succ, List.length_cons, List.length_nil, List.set_cons_zero, List.set_cons_succ, callP, callF, popN, ct, Value.category, cI, List.getD_cons_zero, List.getD_cons_succ, and_self, and_true, true_and, Nat.zero_le, Nat.reduceLeDiff, Nat.add_zero, Nat.zero_add, List.nil_append, List.cons_append, Option.toList_some, Option.toList_none, List.append_nil, hset_ss, true_or, or_true, eq_self, beq_self_eq_true, List.drop_succ_cons, List.drop_zero, swT, swL, hset_ap, not_true_eq_false, not_false_eq_true, true_implies, false_implies, implies_true, Int32.reduceLE, Int32.reduceLT, Int32.reduceAdd, Int32.reduceSub, Int32.reduceOfInt, Int32.reduceToNatClampNeg, i10, i01, Nat.add_left_cancel_iff, Nat.left_eq_add, Nat.add_eq_left, cdX10_holds, F1, eq_false hl]
    exact hq h c sOff.rf
noncomputable def stSeen (M : MS) (fa l : Int32) : Int32 := if (0 ≤ fa ∧ fa < 8) ∧ (0 ≤ l ∧ l < 7) then (if pwB (M.s 0) = true then (if smB (M.s 0) l.toNatClampNeg ((1 : Int32) <<< (nI fa.toNatClampNeg &&& 31)) = true then 1 else 0) else -3) else -2
set_option maxRecDepth 100000 in
set_option maxHeartbeats 400000 in
theorem K_seen {fa l : Int32} (c : CInv h M) (m : MOk M) (hq : ∀ h', CInv h' M → sOff h h' 0 52 → Q (some (.int (stSeen M fa l))) n h') : Ok 111 [.ref 0, .int fa, .int l] n h Q := by
  unfold stSeen at hq
  refine ok_of kMX10_seen kCX10_seen (Nat.le_of_ble_eq_true rfl) (fun z => ?_)
  change A z _ _ 0 0 _ 0 [some (.ref 0), some (.int fa), some (.int l)] [] _
  by_cases hf : 0 ≤ fa ∧ fa < 8
  · by_cases hl : 0 ≤ l ∧ l < 7
    · rw [if_pos ⟨hf, hl⟩] at hq
      obtain ⟨S, hx, hz⟩ := c.t0
      refine go_ok okF1 (C := cdX10_seen) (by rfl) [] 40 (by exact Nat.le_of_ble_eq_true rfl) ?_
      simp (maxSteps := 2000000) only [go, stp, inS, ↓reduceIte, Bool.false_eq_true, Nat.reduceLT, Nat.reduceEqDiff, Nat.reduceAdd, ldI, ldL, ldA, st1, st2, okS, List.getElem?_cons_zero, List.getElem?_cons_succ, List.length_cons, List.length_nil, List.set_cons_zero, List.set_cons_succ, callP, callF, popN, ct, Value.category, cI, List.getD_cons_zero, List.getD_cons_succ, and_self, and_true, true_and, Nat.zero_le, Nat.reduceLeDiff, Nat.add_zero, Nat.zero_add, List.nil_append, List.cons_append, Option.toList_some, Option.toList_none, List.append_nil, hset_ss, true_or, or_true, eq_self, beq_self_eq_true, List.drop_succ_cons, List.drop_zero, swT, swL, hset_ap, not_true_eq_false, not_false_eq_true, true_implies, false_implies, implies_true, Int32.reduceLE, Int32.reduceLT, Int32.reduceAdd, Int32.reduceSub, Int32.reduceOfInt, Int32.reduceToNatClampNeg, i10, i01, Nat.add_left_cancel_iff, Nat.left_eq_add, Nat.add_eq_left, cdX10_seen, F1, eq_true hf, eq_true hl, c.o, hx.1]
      obtain ⟨law, hlaw, rfl⟩ := i_of (n := 7) (by omega) (i_nlt.mpr hl.1) hl.2
      obtain ⟨i, hi, rfl⟩ := i_of (n := 8) (by omega) (i_nlt.mpr hf.1) hf.2
      rw [i_cl (show law < 2147483648 by omega), i_cl (show i < 2147483648 by omega)] at hq
      refine X_whole' c.t0 (m.pi 0 (by omega)) (m.ln 0 (by omega)) (fun hw => ?_) (fun hw => ?_)
      · refine go_ok okF1 (C := cdX10_seen) (by rfl) [] 40 (by exact Nat.le_of_ble_eq_true rfl) ?_
        simp (maxSteps := 2000000) only [go, stp, inS, ↓reduceIte, Bool.false_eq_true, Nat.reduceLT, Nat.reduceEqDiff, Nat.reduceAdd, ldI, ldL, ldA, st1, st2, okS, List.getElem?_cons_zero, List.getElem?_cons_succ, List.length_cons, List.length_nil, List.set_cons_zero, List.set_cons_succ, callP, callF, popN, ct, Value.category, cI, List.getD_cons_zero, List.getD_cons_succ, and_self, and_true, true_and, Nat.zero_le, Nat.reduceLeDiff, Nat.add_zero, Nat.zero_add, List.nil_append, List.cons_append, Option.toList_some, Option.toList_none, List.append_nil, hset_ss, true_or, or_true, eq_self, beq_self_eq_true, List.drop_succ_cons, List.drop_zero, swT, swL, hset_ap, not_true_eq_false, not_false_eq_true, true_implies, false_implies, implies_true, Int32.reduceLE, Int32.reduceLT, Int32.reduceAdd, Int32.reduceSub, Int32.reduceOfInt, Int32.reduceToNatClampNeg, i10, i01, Nat.add_left_cancel_iff, Nat.left_eq_add, Nat.add_eq_left, cdX10_seen, F1]
        rw [if_neg hw] at hq; exact hq h c sOff.rf
      · rw [if_pos hw] at hq
        obtain ⟨Tm, f, sE, al, dn, fi, W, hsm, -⟩ := c.sm
        refine go_ok okF1 (C := cdX10_seen) (by rfl) [] 40 (by exact Nat.le_of_ble_eq_true rfl) ?_
        simp (maxSteps := 2000000) only [go, stp, inS, ↓reduceIte, Bool.false_eq_true, Nat.reduceLT, Nat.reduceEqDiff, Nat.reduceAdd, ldI, ldL, ldA, st1, st2, okS, List.getElem?_cons_zero, List.getElem?_cons_succ, List.length_cons, List.length_nil, List.set_cons_zero, List.set_cons_succ, callP, callF, popN, ct, Value.category, cI, List.getD_cons_zero, List.getD_cons_succ, and_self, and_true, true_and, Nat.zero_le, Nat.reduceLeDiff, Nat.add_zero, Nat.zero_add, List.nil_append, List.cons_append, Option.toList_some, Option.toList_none, List.append_nil, hset_ss, true_or, or_true, eq_self, beq_self_eq_true, List.drop_succ_cons, List.drop_zero, swT, swL, hset_ap, not_true_eq_false, not_false_eq_true, true_implies, false_implies, implies_true, Int32.reduceLE, Int32.reduceLT, Int32.reduceAdd, Int32.reduceSub, Int32.reduceOfInt, Int32.reduceToNatClampNeg, i10, i01, Nat.add_left_cancel_iff, Nat.left_eq_add, Nat.add_eq_left, cdX10_seen, F1, c.o, hsm.1]
        refine K_smalls c (c.ti m (t := 0) (by omega) hw) hlaw (fun hb h' c' hO => ?_) (fun hb h' v hv c' hO => ?_)
        · refine go_ok okF1 (C := cdX10_seen) (by rfl) [] 40 (by exact Nat.le_of_ble_eq_true rfl) ?_
          simp (maxSteps := 2000000) only [go, stp, inS, ↓reduceIte, Bool.false_eq_true, Nat.reduceLT, Nat.reduceEqDiff, Nat.reduceAdd, ldI, ldL, ldA, st1, st2, okS, List.getElem?_cons_zero, List.getElem?_cons_succ, List.length_cons, List.length_nil, List.set_cons_zero, List.set_cons_succ, callP, callF, popN, ct, Value.category, cI, List.getD_cons_zero, List.getD_cons_succ, and_self, and_true, true_and, Nat.zero_le, Nat.reduceLeDiff, Nat.add_zero, Nat.zero_add, List.nil_append, List.cons_append, Option.toList_some, Option.toList_none, List.append_nil, hset_ss, true_or, or_true, eq_self, beq_self_eq_true, List.drop_succ_cons, List.drop_zero, swT, swL, hset_ap, not_true_eq_false, not_false_eq_true, true_implies, false_implies, implies_true, Int32.reduceLE, Int32.reduceLT, Int32.reduceAdd, Int32.reduceSub, Int32.reduceOfInt, Int32.reduceToNatClampNeg, i10, i01, Nat.add_left_cancel_iff, Nat.left_eq_add, Nat.add_eq_left, cdX10_seen, F1]
          rw [if_neg (by rw [hb]; decide)] at hq; exact hq h' c' hO
        · refine go_ok okF1 (C := cdX10_seen) (by rfl) [] 40 (by exact Nat.le_of_ble_eq_true rfl) ?_
          simp (maxSteps := 2000000) only [go, stp, inS, ↓reduceIte, Bool.false_eq_true, Nat.reduceLT, Nat.reduceEqDiff, Nat.reduceAdd, ldI, ldL, ldA, st1, st2, okS, List.getElem?_cons_zero, List.getElem?_cons_succ, List.length_cons, List.length_nil, List.set_cons_zero, List.set_cons_succ, callP, callF, popN, ct, Value.category, cI, List.getD_cons_zero, List.getD_cons_succ, and_self, and_true, true_and, Nat.zero_le, Nat.reduceLeDiff, Nat.add_zero, Nat.zero_add, List.nil_append, List.cons_append, Option.toList_some, Option.toList_none, List.append_nil, hset_ss, true_or, or_true, eq_self, beq_self_eq_true, List.drop_succ_cons, List.drop_zero, swT, swL, hset_ap, not_true_eq_false, not_false_eq_true, true_implies, false_implies, implies_true, Int32.reduceLE, Int32.reduceLT, Int32.reduceAdd, Int32.reduceSub, Int32.reduceOfInt, Int32.reduceToNatClampNeg, i10, i01, Nat.add_left_cancel_iff, Nat.left_eq_add, Nat.add_eq_left, cdX10_seen, F1, hv]
          rw [if_pos hb] at hq; exact hq h' c' hO
    · rw [if_neg (fun q => hl q.2)] at hq
      refine go_ok okF1 (C := cdX10_seen) (by rfl) [] 40 (by exact Nat.le_of_ble_eq_true rfl) ?_
      simp (maxSteps := 2000000) only [go, stp, inS, ↓reduceIte, Bool.false_eq_true, Nat.reduceLT, Nat.reduceEqDiff, Nat.reduceAdd, ldI, ldL, ldA, st1, st2, okS, List.getElem?_cons_zero, List.getElem?_cons_succ, List.length_cons, List.length_nil, List.set_cons_zero, List.set_cons_succ, callP, callF, popN, ct, Value.category, cI, List.getD_cons_zero, List.getD_cons_succ, and_self, and_true, true_and, Nat.zero_le, Nat.reduceLeDiff, Nat.add_zero, Nat.zero_add, List.nil_append, List.cons_append, Option.toList_some, Option.toList_none, List.append_nil, hset_ss, true_or, or_true, eq_self, beq_self_eq_true, List.drop_succ_cons, List.drop_zero, swT, swL, hset_ap, not_true_eq_false, not_false_eq_true, true_implies, false_implies, implies_true, Int32.reduceLE, Int32.reduceLT, Int32.reduceAdd, Int32.reduceSub, Int32.reduceOfInt, Int32.reduceToNatClampNeg, i10, i01, Nat.add_left_cancel_iff, Nat.left_eq_add, Nat.add_eq_left, cdX10_seen, F1, eq_true hf, eq_false hl]
      exact hq h c sOff.rf
  · rw [if_neg (fun q => hf q.1)] at hq
    refine go_ok okF1 (C := cdX10_seen) (by rfl) [] 40 (by exact Nat.le_of_ble_eq_true rfl) ?_
    simp (maxSteps := 2000000) only [go, stp, inS, ↓reduceIte, Bool.false_eq_true, Nat.reduceLT, Nat.reduceEqDiff, Nat.reduceAdd, ldI, ldL, ldA, st1, st2, okS, List.getElem?_cons_zero, List.getElem?_cons_succ, List.length_cons, List.length_nil, List.set_cons_zero, List.set_cons_succ, callP, callF, popN, ct, Value.category, cI, List.getD_cons_zero, List.getD_cons_succ, and_self, and_true, true_and, Nat.zero_le, Nat.reduceLeDiff, Nat.add_zero, Nat.zero_add, List.nil_append, List.cons_append, Option.toList_some, Option.toList_none, List.append_nil, hset_ss, true_or, or_true, eq_self, beq_self_eq_true, List.drop_succ_cons, List.drop_zero, swT, swL, hset_ap, not_true_eq_false, not_false_eq_true, true_implies, false_implies, implies_true, Int32.reduceLE, Int32.reduceLT, Int32.reduceAdd, Int32.reduceSub, Int32.reduceOfInt, Int32.reduceToNatClampNeg, i10, i01, Nat.add_left_cancel_iff, Nat.left_eq_add, Nat.add_eq_left, cdX10_seen, F1, eq_false hf]
    exact hq h c sOff.rf
-- a fault that is put in, and no other
def f1 (k : Nat) : Int32 := (1 : Int32) <<< (nI k &&& 31)
noncomputable def asS (s : pT) (k : Nat) : Bool := anyB 24 (fun i => !(anM (bt (f1 k)) smTf 12 (fun r => evS s smTf (bt (f1 k)) r 0) (TmF i) == (enc 12 (fun r => evS s smTf (bt 0) r 0) &&& 65535) &&& TmF i))
noncomputable def blS (s : pT) : Int32 := mB 8 (fun k => asS s k && !anyB 7 (fun law => !smB s law 0 && smB s law (f1 k)))
theorem bl_eq {s : pT} {f Tm : Nat → Int32} (hs : sOk s) (hf : ∀ q, q < 36 → f q = smTf q) (hT : ∀ i, i < 24 → Tm i = TmF i) : blM (sG s) s.1 (sL s) (sR s) f Tm = blS s := by
  unfold blM blS
  refine mB_ext fun k hk => ?_
  have e1 : asB (bt ((1 : Int32) <<< (nI k &&& 31))) (sG s) s.1 (sL s) (sR s) f Tm (enc 12 (fun r => ev (bt 0) (sG s) s.1 (sL s) (sR s) f r 0) &&& 65535) = asS s k := by
    unfold asB asS
    have ee : enc 12 (fun r => ev (bt 0) (sG s) s.1 (sL s) (sR s) f r 0) = enc 12 (fun r => evS s smTf (bt 0) r 0) := enc_ex (fun r hr => evS_row (d := bt 0) hs (fun c hc => hf _ (by omega)) hs.1) (by omega)
    refine anyB_ext fun i hi => ?_
    rw [ee, hT i hi]
    have e3 : anM (bt (f1 k)) f 12 (fun r => ev (bt (f1 k)) (sG s) s.1 (sL s) (sR s) f r 0) (TmF i) = anM (bt (f1 k)) smTf 12 (fun r => evS s smTf (bt (f1 k)) r 0) (TmF i) := anM_ext hf (fun r hr => evS_row (d := bt (f1 k)) hs (fun c hc => hf _ (by omega)) hs.1)
    rw [← e3]
    rfl
  rw [e1]
  congr 1
  have bb : ∀ i, i < 32 → bt (127 &&& (brM (fun law i => bkE law (bt 0) (sG s) s.1 (sL s) (sR s) f 12 0 (Tm i)) 127 ^^^ (-1))) i = (decide (i < 7) && !smB s i 0) := fun i hi => by
    have h127 : bt 127 i = decide (i < 7) := by revert i; decide +kernel
    rw [b_and, b_not _ hi, h127]
    unfold brM
    rw [b_mB _ _ (by omega) i hi, h127, sm_bk hs hf hT]
    by_cases h7 : i < 7 <;> simp [h7]
  rw [Bool.eq_iff_iff, beq_iff_eq]
  unfold brM
  rw [mB0 (by omega), Bool.not_eq_true']
  rw [anyB_ext (q := fun law => !smB s law 0 && smB s law (f1 k)) (fun law hl => by
    have := bb law (by omega)
    unfold brM at this
    rw [this, sm_bk hs hf hT]; simp [hl, f1])]
noncomputable def stBlind (M : MS) : Int32 := if pwB (M.s 0) = true then blS (M.s 0) else -3
set_option maxRecDepth 100000 in
set_option maxHeartbeats 400000 in
theorem K_blind (c : CInv h M) (m : MOk M) (hq : ∀ h', CInv h' M → sOff h h' 0 52 → Q (some (.int (stBlind M))) n h') : Ok 112 [.ref 0] n h Q := by
  unfold stBlind at hq
  obtain ⟨S, hx, hz⟩ := c.t0
  refine ok_of kMX10_blind kCX10_blind (Nat.le_of_ble_eq_true rfl) (fun z => ?_)
  change A z _ _ 0 0 _ 0 [some (.ref 0)] [] _
  refine go_ok okF1 (C := cdX10_blind) (by rfl) [] 40 (by exact Nat.le_of_ble_eq_true rfl) ?_
  simp (maxSteps := 2000000) only [go, stp, inS, ↓reduceIte, Bool.false_eq_true, Nat.reduceLT, Nat.reduceEqDiff, Nat.reduceAdd, ldI, ldL, ldA, st1, st2, okS, List.getElem?_cons_zero, List.getElem?_cons_succ, List.length_cons, List.length_nil, List.set_cons_zero, List.set_cons_succ, callP, callF, popN, ct, Value.category, cI, List.getD_cons_zero, List.getD_cons_succ, and_self, and_true, true_and, Nat.zero_le, Nat.reduceLeDiff, Nat.add_zero, Nat.zero_add, List.nil_append, List.cons_append, Option.toList_some, Option.toList_none, List.append_nil, hset_ss, true_or, or_true, eq_self, beq_self_eq_true, List.drop_succ_cons, List.drop_zero, swT, swL, hset_ap, not_true_eq_false, not_false_eq_true, true_implies, false_implies, implies_true, Int32.reduceLE, Int32.reduceLT, Int32.reduceAdd, Int32.reduceSub, Int32.reduceOfInt, Int32.reduceToNatClampNeg, i10, i01, Nat.add_left_cancel_iff, Nat.left_eq_add, Nat.add_eq_left, cdX10_blind, F1, c.o, hx.1]
  refine X_whole' c.t0 (m.pi 0 (by omega)) (m.ln 0 (by omega)) (fun hw => ?_) (fun hw => ?_)
  · refine go_ok okF1 (C := cdX10_blind) (by rfl) [] 40 (by exact Nat.le_of_ble_eq_true rfl) ?_
    simp (maxSteps := 2000000) only [go, stp, inS, ↓reduceIte, Bool.false_eq_true, Nat.reduceLT, Nat.reduceEqDiff, Nat.reduceAdd, ldI, ldL, ldA, st1, st2, okS, List.getElem?_cons_zero, List.getElem?_cons_succ, List.length_cons, List.length_nil, List.set_cons_zero, List.set_cons_succ, callP, callF, popN, ct, Value.category, cI, List.getD_cons_zero, List.getD_cons_succ, and_self, and_true, true_and, Nat.zero_le, Nat.reduceLeDiff, Nat.add_zero, Nat.zero_add, List.nil_append, List.cons_append, Option.toList_some, Option.toList_none, List.append_nil, hset_ss, true_or, or_true, eq_self, beq_self_eq_true, List.drop_succ_cons, List.drop_zero, swT, swL, hset_ap, not_true_eq_false, not_false_eq_true, true_implies, false_implies, implies_true, Int32.reduceLE, Int32.reduceLT, Int32.reduceAdd, Int32.reduceSub, Int32.reduceOfInt, Int32.reduceToNatClampNeg, i10, i01, Nat.add_left_cancel_iff, Nat.left_eq_add, Nat.add_eq_left, cdX10_blind, F1]
    rw [if_neg hw] at hq; exact hq h c sOff.rf
  · rw [if_pos hw] at hq
    have hT := c.ti m (t := 0) (by omega) hw
    obtain ⟨Tm, f, sE, S, a1, a2, a3, a4⟩ := smP_of c hT
    refine go_ok okF1 (C := cdX10_blind) (by rfl) [] 40 (by exact Nat.le_of_ble_eq_true rfl) ?_
    simp (maxSteps := 2000000) only [go, stp, inS, ↓reduceIte, Bool.false_eq_true, Nat.reduceLT, Nat.reduceEqDiff, Nat.reduceAdd, ldI, ldL, ldA, st1, st2, okS, List.getElem?_cons_zero, List.getElem?_cons_succ, List.length_cons, List.length_nil, List.set_cons_zero, List.set_cons_succ, callP, callF, popN, ct, Value.category, cI, List.getD_cons_zero, List.getD_cons_succ, and_self, and_true, true_and, Nat.zero_le, Nat.reduceLeDiff, Nat.add_zero, Nat.zero_add, List.nil_append, List.cons_append, Option.toList_some, Option.toList_none, List.append_nil, hset_ss, true_or, or_true, eq_self, beq_self_eq_true, List.drop_succ_cons, List.drop_zero, swT, swL, hset_ap, not_true_eq_false, not_false_eq_true, true_implies, false_implies, implies_true, Int32.reduceLE, Int32.reduceLT, Int32.reduceAdd, Int32.reduceSub, Int32.reduceOfInt, Int32.reduceToNatClampNeg, i10, i01, Nat.add_left_cancel_iff, Nat.left_eq_add, Nat.add_eq_left, cdX10_blind, F1, c.o, a4.1.1]
    refine Z_unseen a3 a4 (fun h' W' dn' w' hO => ?_)
    rw [bl_eq hT.ok a2 a1]
    refine go_ok okF1 (C := cdX10_blind) (by rfl) [] 40 (by exact Nat.le_of_ble_eq_true rfl) ?_
    simp (maxSteps := 2000000) only [go, stp, inS, ↓reduceIte, Bool.false_eq_true, Nat.reduceLT, Nat.reduceEqDiff, Nat.reduceAdd, ldI, ldL, ldA, st1, st2, okS, List.getElem?_cons_zero, List.getElem?_cons_succ, List.length_cons, List.length_nil, List.set_cons_zero, List.set_cons_succ, callP, callF, popN, ct, Value.category, cI, List.getD_cons_zero, List.getD_cons_succ, and_self, and_true, true_and, Nat.zero_le, Nat.reduceLeDiff, Nat.add_zero, Nat.zero_add, List.nil_append, List.cons_append, Option.toList_some, Option.toList_none, List.append_nil, hset_ss, true_or, or_true, eq_self, beq_self_eq_true, List.drop_succ_cons, List.drop_zero, swT, swL, hset_ap, not_true_eq_false, not_false_eq_true, true_implies, false_implies, implies_true, Int32.reduceLE, Int32.reduceLT, Int32.reduceAdd, Int32.reduceSub, Int32.reduceOfInt, Int32.reduceToNatClampNeg, i10, i01, Nat.add_left_cancel_iff, Nat.left_eq_add, Nat.add_eq_left, cdX10_blind, F1]
    exact hq h' (CInv.uSm (smC_of w' a1 a3.1 a2) c (hO.w (by omega) (by omega))) (hO.w (by omega) (by omega))
end C12
