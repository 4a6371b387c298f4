
/-! GrownAsks: judging -/
def tI (h : aH) (x : Nat) (s : pT) : Prop := ∃ B len, TxI h x B s len ∧ pI s len ∧ len ≤ 40 ∧ pwB s = true ∧ 4 ≤ x ∧ x + 6 ≤ 22
theorem tI.kept {h h' : aH} {x : Nat} {s : pT} (hT : tI h x s) (hO : sOff h h' 22 52) : tI h' x s := by
  obtain ⟨B, len, a, b, c, d, e, f⟩ := hT
  exact ⟨B, len, a.kept (fun q _ _ => hO q (by omega)), b, c, d, e, f⟩
section C8
variable {n : Nat} {h : aH} {Q : aQ} {M : MS}
theorem CInv.ti {t : Nat} (c : CInv h M) (m : MOk M) (ht : t < 2) (hw : pwB (M.s t) = true) : tI h (4 + 6 * t) (M.s t) := ⟨_, _, c.tx ht, m.pi t ht, m.ln t ht, hw, by omega, by omega⟩
theorem tI.x0 {x : Nat} {s : pT} (hT : tI h x s) : ∃ B G S L R len ot om mi sk, TxAt h x B G S L R len (nI s.1) ot om mi sk := by
  obtain ⟨B, len, ⟨S, a, -⟩, -⟩ := hT
  exact ⟨_, _, _, _, _, _, _, _, _, _, a⟩
theorem K_workE {x e : Nat} {s : pT} {dn : Int32} (he : e = 22 ∨ e = 25) (c : CInv h M) (m : MOk M) (hT : tI h x s) (hq : ∀ h', CInv h' M → wkd h' e M s dn → tI h' x s → sOff h h' e (e + 3) → Q none n h') : Ok 6 [.ref e, .ref x, .int dn] n h Q := by
  have hT0 := hT
  obtain ⟨B, len, a1, a2, a3, a4, a5, a6⟩ := hT
  rcases he with rfl | rfl
  · exact K_work22 c m a1 a6 a5 a2 a3 a4 (fun h' c' w hO => hq h' c' w (hT0.kept (hO.w (by omega) (by omega))) hO)
  · exact K_work25 c m a1 a6 a5 a2 a3 a4 (fun h' c' w hO => hq h' c' w (hT0.kept (hO.w (by omega) (by omega))) hO)
theorem wkd.v {e : Nat} {s : pT} {dn : Int32} {k : Nat} (w : wkd h e M s dn) (hk : k < s.1) (h40 : s.1 ≤ 40) (hq : Q (some (.int (enc M.nr (fun r => evS s M.f (bt dn) r k)))) n h) : Ok 7 [.ref e, .int (nI k)] n h Q := by
  obtain ⟨fi, W, hE, hW, -⟩ := w
  refine E_verdictAt hE ?_
  rw [if_pos ⟨nI_pos' (by omega), (i_lt (b := 40) (by omega) (by omega)).mpr (by omega)⟩, i_cl (by omega), hW k hk]
  exact hq
theorem tI.ac {x : Nat} {s : pT} (hT : tI h x s) : 0 < s.1 ∧ s.1 ≤ 40 := by
  obtain ⟨B, len, a1, a2, a3, a4, a5, a6⟩ := hT
  refine ⟨s_pos a2 a4, ?_⟩
  obtain ⟨S, -, hk⟩ := s_txOk a1 a2 a3 a4
  exact hk.1
noncomputable def stMeans (M : MS) (dn x act row : Int32) : Int32 := if (0 ≤ x ∧ x < 2) ∧ 0 ≤ act ∧ 0 ≤ row ∧ row < nI M.nr then (if pwB (M.s x.toNatClampNeg) = true then (if act < nI (M.s x.toNatClampNeg).1 then nI (evS (M.s x.toNatClampNeg) M.f (bt dn) row.toNatClampNeg act.toNatClampNeg) else -2) else -3) else -2
set_option maxRecDepth 100000 in
set_option maxHeartbeats 400000 in
theorem K_judged {e : Nat} {dn x act row : Int32} (he : e = 22 ∨ e = 25) (c : CInv h M) (m : MOk M) (hq : ∀ h', CInv h' M → sOff h h' 0 52 → Q (some (.int (stMeans M dn x act row))) n h') : Ok 134 [.ref 0, .ref e, .int dn, .int x, .int act, .int row] n h Q := by
  unfold stMeans at hq
  obtain ⟨sE, hTb, hE⟩ := c.tb
  refine ok_of kMX10_judgedBy kCX10_judgedBy (Nat.le_of_ble_eq_true rfl) (fun z => ?_)
  change A z _ _ 0 0 _ 0 [some (.ref 0), some (.ref e), some (.int dn), some (.int x), some (.int act), some (.int row), none, none] [] _
  refine go_ok okF1 (C := cdX10_judgedBy) (by rfl) [] 40 (by exact Nat.le_of_ble_eq_true rfl) ?_
  simp (maxSteps := 2000000) only [go, stp, inS, ↓reduceIte, Bool.false_eq_true, Nat.reduceLT, Nat.reduceEqDiff, Nat.reduceAdd, ldI, ldL, ldA, st1, st2, okS, List.getElem?_cons_zero, List.getElem?_cons_succ, List.length_cons, List.length_nil, List.set_cons_zero, List.set_cons_succ, callP, callF, popN, ct, Value.category, cI, List.getD_cons_zero, List.getD_cons_succ, and_self, and_true, true_and, Nat.zero_le, Nat.reduceLeDiff, Nat.add_zero, Nat.zero_add, List.nil_append, List.cons_append, Option.toList_some, Option.toList_none, List.append_nil, hset_ss, true_or, or_true, eq_self, beq_self_eq_true, List.drop_succ_cons, List.drop_zero, swT, swL, hset_ap, not_true_eq_false, not_false_eq_true, true_implies, false_implies, implies_true, Int32.reduceLE, Int32.reduceLT, Int32.reduceAdd, Int32.reduceSub, Int32.reduceOfInt, Int32.reduceToNatClampNeg, i10, i01, Nat.add_left_cancel_iff, Nat.left_eq_add, Nat.add_eq_left, cdX10_judgedBy, F1, c.o]
  refine K_text c (fun t ht ex => ?_) (fun ex => ?_)
  · subst ex
    rw [i_cl (show t < 2147483648 by omega)] at hq
    have bad : ¬ (0 ≤ act ∧ 0 ≤ row ∧ row < nI M.nr) → A z 134 n 0 0 h 34 [some (.ref 0), some (.ref e), some (.int dn), some (.int (nI t)), some (.int act), some (.int row), some (.ref (4 + 6 * t)), none] [] Q := fun hc => by
      refine go_ok okF1 (C := cdX10_judgedBy) (by rfl) [] 40 (by exact Nat.le_of_ble_eq_true rfl) ?_
      simp (maxSteps := 2000000) only [go, stp, inS, ↓reduceIte, Bool.false_eq_true, Nat.reduceLT, Nat.reduceEqDiff, Nat.reduceAdd, ldI, ldL, ldA, st1, st2, okS, List.getElem?_cons_zero, List.getElem?_cons_succ, List.length_cons, List.length_nil, List.set_cons_zero, List.set_cons_succ, callP, callF, popN, ct, Value.category, cI, List.getD_cons_zero, List.getD_cons_succ, and_self, and_true, true_and, Nat.zero_le, Nat.reduceLeDiff, Nat.add_zero, Nat.zero_add, List.nil_append, List.cons_append, Option.toList_some, Option.toList_none, List.append_nil, hset_ss, true_or, or_true, eq_self, beq_self_eq_true, List.drop_succ_cons, List.drop_zero, swT, swL, hset_ap, not_true_eq_false, not_false_eq_true, true_implies, false_implies, implies_true, Int32.reduceLE, Int32.reduceLT, Int32.reduceAdd, Int32.reduceSub, Int32.reduceOfInt, Int32.reduceToNatClampNeg, i10, i01, Nat.add_left_cancel_iff, Nat.left_eq_add, Nat.add_eq_left, cdX10_judgedBy, F1]
      rw [if_neg (fun q => hc q.2)] at hq
      exact hq h c sOff.rf
    obtain ⟨S, hx, hz⟩ := c.tx ht
    refine go_ok okF1 (C := cdX10_judgedBy) (by rfl) [34, 37] 40 (by exact Nat.le_of_ble_eq_true rfl) ?_
    simp (maxSteps := 2000000) only [go, stp, inS, ↓reduceIte, Bool.false_eq_true, Nat.reduceLT, Nat.reduceEqDiff, Nat.reduceAdd, ldI, ldL, ldA, st1, st2, okS, List.getElem?_cons_zero, List.getElem?_cons_succ, List.length_cons, List.length_nil, List.set_cons_zero, List.set_cons_succ, callP, callF, popN, ct, Value.category, cI, List.getD_cons_zero, List.getD_cons_succ, and_self, and_true, true_and, Nat.zero_le, Nat.reduceLeDiff, Nat.add_zero, Nat.zero_add, List.nil_append, List.cons_append, Option.toList_some, Option.toList_none, List.append_nil, hset_ss, true_or, or_true, eq_self, beq_self_eq_true, List.drop_succ_cons, List.drop_zero, swT, swL, hset_ap, not_true_eq_false, not_false_eq_true, true_implies, false_implies, implies_true, Int32.reduceLE, Int32.reduceLT, Int32.reduceAdd, Int32.reduceSub, Int32.reduceOfInt, Int32.reduceToNatClampNeg, i10, i01, Nat.add_left_cancel_iff, Nat.left_eq_add, Nat.add_eq_left, cdX10_judgedBy, F1, c.o, hx.1, hTb.1]
    refine ⟨fun c1 => bad (fun q => absurd q.1 (i_nle.mpr c1)), fun c1 => ⟨fun c2 => bad (fun q => absurd q.2.1 (i_nle.mpr c2)), fun c2 => ⟨fun c3 => ?_, fun c3 => bad (fun q => c3 q.2.2)⟩⟩⟩
    rw [if_pos ⟨t2 ht, i_nlt.mp c1, i_nlt.mp c2, c3⟩] at hq
    refine go_ok okF1 (C := cdX10_judgedBy) (by rfl) [] 40 (by exact Nat.le_of_ble_eq_true rfl) ?_
    simp (maxSteps := 2000000) only [go, stp, inS, ↓reduceIte, Bool.false_eq_true, Nat.reduceLT, Nat.reduceEqDiff, Nat.reduceAdd, ldI, ldL, ldA, st1, st2, okS, List.getElem?_cons_zero, List.getElem?_cons_succ, List.length_cons, List.length_nil, List.set_cons_zero, List.set_cons_succ, callP, callF, popN, ct, Value.category, cI, List.getD_cons_zero, List.getD_cons_succ, and_self, and_true, true_and, Nat.zero_le, Nat.reduceLeDiff, Nat.add_zero, Nat.zero_add, List.nil_append, List.cons_append, Option.toList_some, Option.toList_none, List.append_nil, hset_ss, true_or, or_true, eq_self, beq_self_eq_true, List.drop_succ_cons, List.drop_zero, swT, swL, hset_ap, not_true_eq_false, not_false_eq_true, true_implies, false_implies, implies_true, Int32.reduceLE, Int32.reduceLT, Int32.reduceAdd, Int32.reduceSub, Int32.reduceOfInt, Int32.reduceToNatClampNeg, i10, i01, Nat.add_left_cancel_iff, Nat.left_eq_add, Nat.add_eq_left, cdX10_judgedBy, F1, hx.1]
    refine X_whole' (c.tx ht) (m.pi t ht) (m.ln t ht) (fun hw => ?_) (fun hw => ?_)
    · refine go_ok okF1 (C := cdX10_judgedBy) (by rfl) [] 40 (by exact Nat.le_of_ble_eq_true rfl) ?_
      simp (maxSteps := 2000000) only [go, stp, inS, ↓reduceIte, Bool.false_eq_true, Nat.reduceLT, Nat.reduceEqDiff, Nat.reduceAdd, ldI, ldL, ldA, st1, st2, okS, List.getElem?_cons_zero, List.getElem?_cons_succ, List.length_cons, List.length_nil, List.set_cons_zero, List.set_cons_succ, callP, callF, popN, ct, Value.category, cI, List.getD_cons_zero, List.getD_cons_succ, and_self, and_true, true_and, Nat.zero_le, Nat.reduceLeDiff, Nat.add_zero, Nat.zero_add, List.nil_append, List.cons_append, Option.toList_some, Option.toList_none, List.append_nil, hset_ss, true_or, or_true, eq_self, beq_self_eq_true, List.drop_succ_cons, List.drop_zero, swT, swL, hset_ap, not_true_eq_false, not_false_eq_true, true_implies, false_implies, implies_true, Int32.reduceLE, Int32.reduceLT, Int32.reduceAdd, Int32.reduceSub, Int32.reduceOfInt, Int32.reduceToNatClampNeg, i10, i01, Nat.add_left_cancel_iff, Nat.left_eq_add, Nat.add_eq_left, cdX10_judgedBy, F1]
      rw [if_neg hw] at hq; exact hq h c sOff.rf
    · have hTi := c.ti m ht hw
      have hac := hTi.ac
      rw [if_pos hw] at hq
      have he2 : ∃ al dn fi W, EnAt h e 1 al dn fi W := by
        rcases he with rfl | rfl
        · exact c.en
        · exact c.me
      obtain ⟨al, d0, fi0, W0, hEn⟩ := he2
      refine go_ok okF1 (C := cdX10_judgedBy) (by rfl) [] 40 (by exact Nat.le_of_ble_eq_true rfl) ?_
      simp (maxSteps := 2000000) only [go, stp, inS, ↓reduceIte, Bool.false_eq_true, Nat.reduceLT, Nat.reduceEqDiff, Nat.reduceAdd, ldI, ldL, ldA, st1, st2, okS, List.getElem?_cons_zero, List.getElem?_cons_succ, List.length_cons, List.length_nil, List.set_cons_zero, List.set_cons_succ, callP, callF, popN, ct, Value.category, cI, List.getD_cons_zero, List.getD_cons_succ, and_self, and_true, true_and, Nat.zero_le, Nat.reduceLeDiff, Nat.add_zero, Nat.zero_add, List.nil_append, List.cons_append, Option.toList_some, Option.toList_none, List.append_nil, hset_ss, true_or, or_true, eq_self, beq_self_eq_true, List.drop_succ_cons, List.drop_zero, swT, swL, hset_ap, not_true_eq_false, not_false_eq_true, true_implies, false_implies, implies_true, Int32.reduceLE, Int32.reduceLT, Int32.reduceAdd, Int32.reduceSub, Int32.reduceOfInt, Int32.reduceToNatClampNeg, i10, i01, Nat.add_left_cancel_iff, Nat.left_eq_add, Nat.add_eq_left, cdX10_judgedBy, F1, hx.1, (show h e = _ from hEn.1)]
      refine ⟨fun c4 => ?_, fun c4 => ?_⟩
      · rw [if_pos c4] at hq
        refine K_workE he c m hTi (fun h' c' w' hT' hO => ?_)
        have w2 := w'
        obtain ⟨fi, W, hEn', -⟩ := w2
        refine go_ok okF1 (C := cdX10_judgedBy) (by rfl) [] 40 (by exact Nat.le_of_ble_eq_true rfl) ?_
        simp (maxSteps := 2000000) only [go, stp, inS, ↓reduceIte, Bool.false_eq_true, Nat.reduceLT, Nat.reduceEqDiff, Nat.reduceAdd, ldI, ldL, ldA, st1, st2, okS, List.getElem?_cons_zero, List.getElem?_cons_succ, List.length_cons, List.length_nil, List.set_cons_zero, List.set_cons_succ, callP, callF, popN, ct, Value.category, cI, List.getD_cons_zero, List.getD_cons_succ, and_self, and_true, true_and, Nat.zero_le, Nat.reduceLeDiff, Nat.add_zero, Nat.zero_add, List.nil_append, List.cons_append, Option.toList_some, Option.toList_none, List.append_nil, hset_ss, true_or, or_true, eq_self, beq_self_eq_true, List.drop_succ_cons, List.drop_zero, swT, swL, hset_ap, not_true_eq_false, not_false_eq_true, true_implies, false_implies, implies_true, Int32.reduceLE, Int32.reduceLT, Int32.reduceAdd, Int32.reduceSub, Int32.reduceOfInt, Int32.reduceToNatClampNeg, i10, i01, Nat.add_left_cancel_iff, Nat.left_eq_add, Nat.add_eq_left, cdX10_judgedBy, F1, (show h' e = _ from hEn'.1)]
        obtain ⟨k, hk, rfl⟩ := i_of (by omega) c1 c4
        obtain ⟨r, hr, rfl⟩ := i_of (by have := m.nr; omega) c2 c3
        have hnr := m.nr
        rw [i_cl (by omega), i_cl (by omega)] at hq
        refine w'.v hk hac.2 ?_
        refine go_ok okF1 (C := cdX10_judgedBy) (by rfl) [] 40 (by exact Nat.le_of_ble_eq_true rfl) ?_
        simp (maxSteps := 2000000) only [go, stp, inS, ↓reduceIte, Bool.false_eq_true, Nat.reduceLT, Nat.reduceEqDiff, Nat.reduceAdd, ldI, ldL, ldA, st1, st2, okS, List.getElem?_cons_zero, List.getElem?_cons_succ, List.length_cons, List.length_nil, List.set_cons_zero, List.set_cons_succ, callP, callF, popN, ct, Value.category, cI, List.getD_cons_zero, List.getD_cons_succ, and_self, and_true, true_and, Nat.zero_le, Nat.reduceLeDiff, Nat.add_zero, Nat.zero_add, List.nil_append, List.cons_append, Option.toList_some, Option.toList_none, List.append_nil, hset_ss, true_or, or_true, eq_self, beq_self_eq_true, List.drop_succ_cons, List.drop_zero, swT, swL, hset_ap, not_true_eq_false, not_false_eq_true, true_implies, false_implies, implies_true, Int32.reduceLE, Int32.reduceLT, Int32.reduceAdd, Int32.reduceSub, Int32.reduceOfInt, Int32.reduceToNatClampNeg, i10, i01, Nat.add_left_cancel_iff, Nat.left_eq_add, Nat.add_eq_left, cdX10_judgedBy, F1, b_ask _ (show r < 32 by omega), b_yE (show M.nr ≤ 16 by omega), b_nE (show M.nr ≤ 16 by omega), decide_eq_true_eq]
        have := hq h' c' (hO.w (by omega) (by omega))
        have hle : evS (M.s t) M.f (bt dn) r k ≤ 2 := ev_le _ _
        by_cases q1 : evS (M.s t) M.f (bt dn) r k = 1
        · simp only [hr, q1, true_and, if_true, i10, false_implies, not_false_eq_true, true_implies]
          rw [q1] at this; exact this
        · by_cases q2 : evS (M.s t) M.f (bt dn) r k = 2
          · simp only [hr, q2, q1, true_and, if_true, if_false, i10, false_implies, not_false_eq_true, true_implies]
            rw [q2] at this; have this : Q (some (.int 2)) n h' := this; simpa using this
          · simp only [hr, q2, q1, true_and, if_true, if_false, i10, false_implies, not_false_eq_true, true_implies]
            rw [show evS (M.s t) M.f (bt dn) r k = 0 by omega] at this; have this : Q (some (.int 0)) n h' := this; simpa using this
      · rw [if_neg c4] at hq; exact hq h c sOff.rf
  · refine go_ok okF1 (C := cdX10_judgedBy) (by rfl) [] 40 (by exact Nat.le_of_ble_eq_true rfl) ?_
    simp (maxSteps := 2000000) only [go, stp, inS, ↓reduceIte, Bool.false_eq_true, Nat.reduceLT, Nat.reduceEqDiff, Nat.reduceAdd, ldI, ldL, ldA, st1, st2, okS, List.getElem?_cons_zero, List.getElem?_cons_succ, List.length_cons, List.length_nil, List.set_cons_zero, List.set_cons_succ, callP, callF, popN, ct, Value.category, cI, List.getD_cons_zero, List.getD_cons_succ, and_self, and_true, true_and, Nat.zero_le, Nat.reduceLeDiff, Nat.add_zero, Nat.zero_add, List.nil_append, List.cons_append, Option.toList_some, Option.toList_none, List.append_nil, hset_ss, true_or, or_true, eq_self, beq_self_eq_true, List.drop_succ_cons, List.drop_zero, swT, swL, hset_ap, not_true_eq_false, not_false_eq_true, true_implies, false_implies, implies_true, Int32.reduceLE, Int32.reduceLT, Int32.reduceAdd, Int32.reduceSub, Int32.reduceOfInt, Int32.reduceToNatClampNeg, i10, i01, Nat.add_left_cancel_iff, Nat.left_eq_add, Nat.add_eq_left, cdX10_judgedBy, F1]
    rw [if_neg (fun q => ex q.1)] at hq
    exact hq h c sOff.rf
end C8
