
/-! the model: cut -/
theorem fstR_ext {p p' : Nat → Bool} : ∀ {m i : Nat}, (∀ j, i ≤ j → j < i + m → p j = p' j) → fstR p m i = fstR p' m i
  | 0, _, _ => rfl
  | m + 1, i, h => by rw [fstR_s, fstR_s, h i (by omega) (by omega), fstR_ext (fun j h1 h2 => h j (by omega) (by omega))]
theorem cutF_ext {bk bk' : Nat → Int32 → Bool} {z z' : Nat → Nat} {ac : Nat} (hb : ∀ k x, k < ac → bk k x = bk' k x) (hz : ∀ k, k < ac → z k = z' k) (hz2 : ∀ k, k < ac → k + z k ≤ ac ∧ 1 ≤ z k) : ∀ m st rt, rt < ac → cutF bk z m (st, rt) = cutF bk' z' m (st, rt)
  | 0, _, _, _ => rfl
  | m + 1, st, rt, h => by
    have e1 : fstR (fun r => !(few st r == st) && bk rt (few st r)) 8 0 = fstR (fun r => !(few st r == st) && bk' rt (few st r)) 8 0 := fstR_ext (fun j _ _ => by rw [hb rt _ h])
    have hzz := hz2 rt h
    have e2 : fstR (fun k => bk k st) (z rt - 1) (rt + 1) = fstR (fun k => bk' k st) (z' rt - 1) (rt + 1) := by
      rw [← hz rt h]
      exact fstR_ext (fun j _ h2 => hb j _ (by omega))
    have e3 : cutS bk z (st, rt) = cutS bk' z' (st, rt) := by
      unfold cutS
      dsimp only
      rw [e1, e2]
    rw [cutF_s, cutF_s, e3]
    cases hc : cutS bk' z' (st, rt) with
    | none => rfl
    | some s' =>
      obtain ⟨st', rt'⟩ := s'
      dsimp only
      refine cutF_ext hb hz hz2 m st' rt' ?_
      unfold cutS at hc
      dsimp only at hc
      cases h1 : fstR (fun r => !(few st r == st) && bk' rt (few st r)) 8 0 with
      | some r => rw [h1] at hc; dsimp only at hc; injection hc with hc; injection hc with _ hc; omega
      | none =>
        rw [h1] at hc
        dsimp only at hc
        cases h2 : fstR (fun k => bk' k st) (z' rt - 1) (rt + 1) with
        | none => rw [h2] at hc; cases hc
        | some k =>
          rw [h2] at hc
          dsimp only at hc
          injection hc with hc
          injection hc with _ hc
          have := fstR_in h2
          rw [← hz rt h] at this
          omega
section MV2
variable {n : Nat} {h : aH} {Q : aQ} {M : MS} {c : Nat → Int32} {a : Nat → Nat → Int32} {l : Nat → Nat → Int64} {law : Nat} {s : pT}
theorem sz_t (ok : MOk M) {t : Nat} (ht : t < 2) (hw : pwB (M.s t) = true) {k : Nat} (hk : k < (M.s t).1) : sz (sG (sM M t)) (sM M t).1 k = sz (sG (M.s t)) (M.s t).1 k := by
  have := (evS_pR (f := fun _ => 0) (d := fun _ => false) (r := 0) (ok.pi t ht) (pwB_iff.mp hw) (ok.pr t ht) hk).1
  rw [show (sM M t).1 = (M.s t).1 from (pR_eq (len := M.len t) (ok.pr t ht)).1]
  exact this
theorem cut_t (ok : MOk M) (hw : pwB (M.s 0) = true) : cutQ M (sM M 0) law = cutM M (M.s 0) law (M.ru &&& M.fa) := by
  have p1 := (pR_eq (len := M.len 0) (ok.pr 0 (by omega))).1
  have hk := ok.sok (t := 0) (by omega) hw
  unfold cutQ cutM
  refine cutF_ext (ac := (M.s 0).1) (fun k x hk2 => bkM_t ok (by omega) hw hk2) (fun k hk2 => sz_t ok (by omega) hw hk2) (fun k hk2 => ?_) 48 _ 0 (ok.pz0 (by omega) hw)
  have e : (sM M 0).1 = (M.s 0).1 := p1
  have := sz_wf hk.2.2.1 _ k (Nat.le_refl _) (by rw [e]; exact hk2)
  rw [e] at this ⊢
  exact ⟨this.2.1, this.1⟩
set_option maxRecDepth 100000 in
set_option maxHeartbeats 400000 in
theorem D_cut {l0 w : Int32} (m : MI h M) (ok : MOk M) (hq : ∀ h', MI h' M → sOff h h' 52 80 → Q (some (.int (stCut M l0 w))) n h') : Ok 214 [.ref 52, .int l0, .int w] n h Q := by
  unfold stCut at hq
  have hnr := ok.nr
  have m0 := m
  obtain ⟨c, a, l, m, r⟩ := m
  refine ok_of kMX11_cut kCX11_cut (Nat.le_of_ble_eq_true rfl) (fun z => ?_)
  change A z _ _ 0 0 _ 0 [some (.ref 52), some (.int l0), some (.int w)] [] _
  by_cases hl : 0 ≤ l0 ∧ l0 < 7
  · by_cases hw3 : 0 ≤ w ∧ w < 3
    · rw [if_pos ⟨hl, (le2 w).mpr hw3⟩] at hq
      obtain ⟨law, hlaw, rfl⟩ := i_of (n := 7) (by omega) (i_nlt.mpr hl.1) hl.2
      rw [i_cl (show law < 2147483648 by omega)] at hq
      refine go_ok okF1 (C := cdX11_cut) (by rfl) [] 40 (by exact Nat.le_of_ble_eq_true rfl) ?_
      simp (maxSteps := 2000000) only [go, stp, inS, ↓reduceIte, Bool.false_eq_true, Nat.reduceLT, Nat.reduceEqDiff, Nat.reduceAdd, ldI, ldL, ldA, st1, st2, okS, List.getElem?_cons_zero, List.getElem?_cons_succ, List.length_cons, List.length_nil, List.set_cons_zero, List.set_cons_succ, callP, callF, popN, ct, Value.category, cI, List.getD_cons_zero, List.getD_cons_succ, and_self, and_true, true_and, Nat.zero_le, Nat.reduceLeDiff, Nat.add_zero, Nat.zero_add, List.nil_append, List.cons_append, Option.toList_some, Option.toList_none, List.append_nil, hset_ss, true_or, or_true, eq_self, beq_self_eq_true, List.drop_succ_cons, List.drop_zero, swT, swL, hset_ap, not_true_eq_false, not_false_eq_true, true_implies, false_implies, implies_true, Int32.reduceLE, Int32.reduceLT, Int32.reduceAdd, Int32.reduceSub, Int32.reduceOfInt, Int32.reduceToNatClampNeg, i10, i01, Nat.add_left_cancel_iff, Nat.left_eq_add, Nat.add_eq_left, cdX11_cut, F1, eq_true hl, in02, eq_true hw3, m.o]
      refine D_readsM (t := 0) m0 ok (by omega) (fun hw hf h' m' o => ?_) (fun hw h1 c1 a1 l1 m1 r1 hs h12 o1 => ?_)
      · refine go_ok okF1 (C := cdX11_cut) (by rfl) [] 40 (by exact Nat.le_of_ble_eq_true rfl) ?_
        simp (maxSteps := 2000000) only [go, stp, inS, ↓reduceIte, Bool.false_eq_true, Nat.reduceLT, Nat.reduceEqDiff, Nat.reduceAdd, ldI, ldL, ldA, st1, st2, okS, List.getElem?_cons_zero, List.getElem?_cons_succ, List.length_cons, List.length_nil, List.set_cons_zero, List.set_cons_succ, callP, callF, popN, ct, Value.category, cI, List.getD_cons_zero, List.getD_cons_succ, and_self, and_true, true_and, Nat.zero_le, Nat.reduceLeDiff, Nat.add_zero, Nat.zero_add, List.nil_append, List.cons_append, Option.toList_some, Option.toList_none, List.append_nil, hset_ss, true_or, or_true, eq_self, beq_self_eq_true, List.drop_succ_cons, List.drop_zero, swT, swL, hset_ap, not_true_eq_false, not_false_eq_true, true_implies, false_implies, implies_true, Int32.reduceLE, Int32.reduceLT, Int32.reduceAdd, Int32.reduceSub, Int32.reduceOfInt, Int32.reduceToNatClampNeg, i10, i01, Nat.add_left_cancel_iff, Nat.left_eq_add, Nat.add_eq_left, cdX11_cut, F1, hf]
        rw [if_neg (fun q => hw q.1)] at hq
        exact hq h' m' o
      · have hk := ok.sok (t := 0) (by omega) hw
        have p1 : (sM M 0).1 = (M.s 0).1 := (pR_eq (len := M.len 0) (ok.pr 0 (by omega))).1
        have rd : rdy M (sM M 0) c1 a1 (kL l1 c1) := ⟨r1.kl c1, hs, by rw [h12, p1], rfl, rfl⟩
        refine go_ok okF1 (C := cdX11_cut) (by rfl) [] 40 (by exact Nat.le_of_ble_eq_true rfl) ?_
        simp (maxSteps := 2000000) only [go, stp, inS, ↓reduceIte, Bool.false_eq_true, Nat.reduceLT, Nat.reduceEqDiff, Nat.reduceAdd, ldI, ldL, ldA, st1, st2, okS, List.getElem?_cons_zero, List.getElem?_cons_succ, List.length_cons, List.length_nil, List.set_cons_zero, List.set_cons_succ, callP, callF, popN, ct, Value.category, cI, List.getD_cons_zero, List.getD_cons_succ, and_self, and_true, true_and, Nat.zero_le, Nat.reduceLeDiff, Nat.add_zero, Nat.zero_add, List.nil_append, List.cons_append, Option.toList_some, Option.toList_none, List.append_nil, hset_ss, true_or, or_true, eq_self, beq_self_eq_true, List.drop_succ_cons, List.drop_zero, swT, swL, hset_ap, not_true_eq_false, not_false_eq_true, true_implies, false_implies, implies_true, Int32.reduceLE, Int32.reduceLT, Int32.reduceAdd, Int32.reduceSub, Int32.reduceOfInt, Int32.reduceToNatClampNeg, i10, i01, Nat.add_left_cancel_iff, Nat.left_eq_add, Nat.add_eq_left, cdX11_cut, F1, m1.o]
        refine D_allRows m1 r1.nr ?_
        refine go_ok okF1 (C := cdX11_cut) (by rfl) [] 40 (by exact Nat.le_of_ble_eq_true rfl) ?_
        simp (maxSteps := 2000000) only [go, stp, inS, ↓reduceIte, Bool.false_eq_true, Nat.reduceLT, Nat.reduceEqDiff, Nat.reduceAdd, ldI, ldL, ldA, st1, st2, okS, List.getElem?_cons_zero, List.getElem?_cons_succ, List.length_cons, List.length_nil, List.set_cons_zero, List.set_cons_succ, callP, callF, popN, ct, Value.category, cI, List.getD_cons_zero, List.getD_cons_succ, and_self, and_true, true_and, Nat.zero_le, Nat.reduceLeDiff, Nat.add_zero, Nat.zero_add, List.nil_append, List.cons_append, Option.toList_some, Option.toList_none, List.append_nil, hset_ss, true_or, or_true, eq_self, beq_self_eq_true, List.drop_succ_cons, List.drop_zero, swT, swL, hset_ap, not_true_eq_false, not_false_eq_true, true_implies, false_implies, implies_true, Int32.reduceLE, Int32.reduceLT, Int32.reduceAdd, Int32.reduceSub, Int32.reduceOfInt, Int32.reduceToNatClampNeg, i10, i01, Nat.add_left_cancel_iff, Nat.left_eq_add, Nat.add_eq_left, cdX11_cut, F1, m1.o]
        refine D_qBy (o := 0) (m1.kl c1) rd ok hk hk.1 hlaw (fun i hi => by
          rcases Nat.lt_or_ge i 32 with h32 | h32
          · rw [b_alm (by omega) h32]; simp; omega
          · exact b_big h32) (fun h2 c2 a2 m2 r2 o2 => ?_)
        have e0 : bkS (sM M 0) M.f M.nr law (M.ru &&& M.fa) 0 (alm M.nr) = bkM M (M.s 0) law (M.ru &&& M.fa) 0 (alm M.nr) := bkM_t ok (by omega) hw (ok.pz0 (by omega) hw)
        rw [e0]
        by_cases hb : bkM M (M.s 0) law (M.ru &&& M.fa) 0 (alm M.nr) = true
        · rw [if_pos ⟨hw, hb⟩] at hq
          rw [if_pos hb]
          refine go_ok okF1 (C := cdX11_cut) (by rfl) [] 40 (by exact Nat.le_of_ble_eq_true rfl) ?_
          simp (maxSteps := 2000000) only [go, stp, inS, ↓reduceIte, Bool.false_eq_true, Nat.reduceLT, Nat.reduceEqDiff, Nat.reduceAdd, ldI, ldL, ldA, st1, st2, okS, List.getElem?_cons_zero, List.getElem?_cons_succ, List.length_cons, List.length_nil, List.set_cons_zero, List.set_cons_succ, callP, callF, popN, ct, Value.category, cI, List.getD_cons_zero, List.getD_cons_succ, and_self, and_true, true_and, Nat.zero_le, Nat.reduceLeDiff, Nat.add_zero, Nat.zero_add, List.nil_append, List.cons_append, Option.toList_some, Option.toList_none, List.append_nil, hset_ss, true_or, or_true, eq_self, beq_self_eq_true, List.drop_succ_cons, List.drop_zero, swT, swL, hset_ap, not_true_eq_false, not_false_eq_true, true_implies, false_implies, implies_true, Int32.reduceLE, Int32.reduceLT, Int32.reduceAdd, Int32.reduceSub, Int32.reduceOfInt, Int32.reduceToNatClampNeg, i10, i01, Nat.add_left_cancel_iff, Nat.left_eq_add, Nat.add_eq_left, cdX11_cut, F1, m2.o]
          refine D_cuts m2 r2 ok hk hlaw (fun h3 c3 a3 l3 m3 r3 k33 k34 k35 o3 => ?_)
          rw [cut_t ok hw] at k33 k34 k35
          have fin := hq h3 ⟨_, _, _, m3, r3.1⟩ ((o1.tr o2).tr o3)
          have z18 := r3.2.1.2 _ k35
          rw [sz_t ok (by omega) hw (by rw [← p1]; exact k35)] at z18
          have := hk.2.1
          generalize cutM M (M.s 0) law (M.ru &&& M.fa) = cr at fin k33 k34 k35 z18
          by_cases w0 : w = 0
          · subst w0
            refine go_ok okF1 (C := cdX11_cut) (by rfl) [] 40 (by exact Nat.le_of_ble_eq_true rfl) ?_
            simp (maxSteps := 2000000) only [go, stp, inS, ↓reduceIte, Bool.false_eq_true, Nat.reduceLT, Nat.reduceEqDiff, Nat.reduceAdd, ldI, ldL, ldA, st1, st2, okS, List.getElem?_cons_zero, List.getElem?_cons_succ, List.length_cons, List.length_nil, List.set_cons_zero, List.set_cons_succ, callP, callF, popN, ct, Value.category, cI, List.getD_cons_zero, List.getD_cons_succ, and_self, and_true, true_and, Nat.zero_le, Nat.reduceLeDiff, Nat.add_zero, Nat.zero_add, List.nil_append, List.cons_append, Option.toList_some, Option.toList_none, List.append_nil, hset_ss, true_or, or_true, eq_self, beq_self_eq_true, List.drop_succ_cons, List.drop_zero, swT, swL, hset_ap, not_true_eq_false, not_false_eq_true, true_implies, false_implies, implies_true, Int32.reduceLE, Int32.reduceLT, Int32.reduceAdd, Int32.reduceSub, Int32.reduceOfInt, Int32.reduceToNatClampNeg, i10, i01, Nat.add_left_cancel_iff, Nat.left_eq_add, Nat.add_eq_left, cdX11_cut, F1, m3.o, k33]
            exact fin
          · rw [if_neg w0] at fin
            by_cases w1 : w = 1
            · subst w1
              refine go_ok okF1 (C := cdX11_cut) (by rfl) [] 40 (by exact Nat.le_of_ble_eq_true rfl) ?_
              simp (maxSteps := 2000000) only [go, stp, inS, ↓reduceIte, Bool.false_eq_true, Nat.reduceLT, Nat.reduceEqDiff, Nat.reduceAdd, ldI, ldL, ldA, st1, st2, okS, List.getElem?_cons_zero, List.getElem?_cons_succ, List.length_cons, List.length_nil, List.set_cons_zero, List.set_cons_succ, callP, callF, popN, ct, Value.category, cI, List.getD_cons_zero, List.getD_cons_succ, and_self, and_true, true_and, Nat.zero_le, Nat.reduceLeDiff, Nat.add_zero, Nat.zero_add, List.nil_append, List.cons_append, Option.toList_some, Option.toList_none, List.append_nil, hset_ss, true_or, or_true, eq_self, beq_self_eq_true, List.drop_succ_cons, List.drop_zero, swT, swL, hset_ap, not_true_eq_false, not_false_eq_true, true_implies, false_implies, implies_true, Int32.reduceLE, Int32.reduceLT, Int32.reduceAdd, Int32.reduceSub, Int32.reduceOfInt, Int32.reduceToNatClampNeg, i10, i01, Nat.add_left_cancel_iff, Nat.left_eq_add, Nat.add_eq_left, cdX11_cut, F1, m3.o, k34, m3.a18, i_cl (show cr.2 < 2147483648 by omega), z18]
              repeat refine ⟨vp_in_nI (by omega) (by omega), ?_⟩
              exact fin
            · refine go_ok okF1 (C := cdX11_cut) (by rfl) [] 40 (by exact Nat.le_of_ble_eq_true rfl) ?_
              simp (maxSteps := 2000000) only [go, stp, inS, ↓reduceIte, Bool.false_eq_true, Nat.reduceLT, Nat.reduceEqDiff, Nat.reduceAdd, ldI, ldL, ldA, st1, st2, okS, List.getElem?_cons_zero, List.getElem?_cons_succ, List.length_cons, List.length_nil, List.set_cons_zero, List.set_cons_succ, callP, callF, popN, ct, Value.category, cI, List.getD_cons_zero, List.getD_cons_succ, and_self, and_true, true_and, Nat.zero_le, Nat.reduceLeDiff, Nat.add_zero, Nat.zero_add, List.nil_append, List.cons_append, Option.toList_some, Option.toList_none, List.append_nil, hset_ss, true_or, or_true, eq_self, beq_self_eq_true, List.drop_succ_cons, List.drop_zero, swT, swL, hset_ap, not_true_eq_false, not_false_eq_true, true_implies, false_implies, implies_true, Int32.reduceLE, Int32.reduceLT, Int32.reduceAdd, Int32.reduceSub, Int32.reduceOfInt, Int32.reduceToNatClampNeg, i10, i01, Nat.add_left_cancel_iff, Nat.left_eq_add, Nat.add_eq_left, cdX11_cut, F1, m3.o, k34, w0, w1]
              rw [if_neg w1] at fin
              exact fin
        · rw [if_neg (fun q => hb q.2)] at hq
          rw [if_neg hb]
          refine go_ok okF1 (C := cdX11_cut) (by rfl) [] 40 (by exact Nat.le_of_ble_eq_true rfl) ?_
          simp (maxSteps := 2000000) only [go, stp, inS, ↓reduceIte, Bool.false_eq_true, Nat.reduceLT, Nat.reduceEqDiff, Nat.reduceAdd, ldI, ldL, ldA, st1, st2, okS, List.getElem?_cons_zero, List.getElem?_cons_succ, List.length_cons, List.length_nil, List.set_cons_zero, List.set_cons_succ, callP, callF, popN, ct, Value.category, cI, List.getD_cons_zero, List.getD_cons_succ, and_self, and_true, true_and, Nat.zero_le, Nat.reduceLeDiff, Nat.add_zero, Nat.zero_add, List.nil_append, List.cons_append, Option.toList_some, Option.toList_none, List.append_nil, hset_ss, true_or, or_true, eq_self, beq_self_eq_true, List.drop_succ_cons, List.drop_zero, swT, swL, hset_ap, not_true_eq_false, not_false_eq_true, true_implies, false_implies, implies_true, Int32.reduceLE, Int32.reduceLT, Int32.reduceAdd, Int32.reduceSub, Int32.reduceOfInt, Int32.reduceToNatClampNeg, i10, i01, Nat.add_left_cancel_iff, Nat.left_eq_add, Nat.add_eq_left, cdX11_cut, F1]
          exact hq h2 ⟨_, _, _, m2, r2.1⟩ (o1.tr o2)
    · rw [if_neg (fun q => hw3 ((le2 w).mp q.2))] at hq
      refine go_ok okF1 (C := cdX11_cut) (by rfl) [] 40 (by exact Nat.le_of_ble_eq_true rfl) ?_
      simp (maxSteps := 2000000) only [go, stp, inS, ↓reduceIte, Bool.false_eq_true, Nat.reduceLT, Nat.reduceEqDiff, Nat.reduceAdd, ldI, ldL, ldA, st1, st2, okS, List.getElem?_cons_zero, List.getElem?_cons_succ, List.length_cons, List.length_nil, List.set_cons_zero, List.set_cons_succ, callP, callF, popN, ct, Value.category, cI, List.getD_cons_zero, List.getD_cons_succ, and_self, and_true, true_and, Nat.zero_le, Nat.reduceLeDiff, Nat.add_zero, Nat.zero_add, List.nil_append, List.cons_append, Option.toList_some, Option.toList_none, List.append_nil, hset_ss, true_or, or_true, eq_self, beq_self_eq_true, List.drop_succ_cons, List.drop_zero, swT, swL, hset_ap, not_true_eq_false, not_false_eq_true, true_implies, false_implies, implies_true, Int32.reduceLE, Int32.reduceLT, Int32.reduceAdd, Int32.reduceSub, Int32.reduceOfInt, Int32.reduceToNatClampNeg, i10, i01, Nat.add_left_cancel_iff, Nat.left_eq_add, Nat.add_eq_left, cdX11_cut, F1, eq_true hl, in02, eq_false hw3]
      exact hq h m0 sOff.rf
  · rw [if_neg (fun q => hl q.1)] at hq
    refine go_ok okF1 (C := cdX11_cut) (by rfl) [] 40 (by exact Nat.le_of_ble_eq_true rfl) ?_
    simp (maxSteps := 2000000) only [go, stp, inS, ↓reduceIte, Bool.false_eq_true, Nat.reduceLT, Nat.reduceEqDiff, Nat.reduceAdd, ldI, ldL, ldA, st1, st2, okS, List.getElem?_cons_zero, List.getElem?_cons_succ, List.length_cons, List.length_nil, List.set_cons_zero, List.set_cons_succ, callP, callF, popN, ct, Value.category, cI, List.getD_cons_zero, List.getD_cons_succ, and_self, and_true, true_and, Nat.zero_le, Nat.reduceLeDiff, Nat.add_zero, Nat.zero_add, List.nil_append, List.cons_append, Option.toList_some, Option.toList_none, List.append_nil, hset_ss, true_or, or_true, eq_self, beq_self_eq_true, List.drop_succ_cons, List.drop_zero, swT, swL, hset_ap, not_true_eq_false, not_false_eq_true, true_implies, false_implies, implies_true, Int32.reduceLE, Int32.reduceLT, Int32.reduceAdd, Int32.reduceSub, Int32.reduceOfInt, Int32.reduceToNatClampNeg, i10, i01, Nat.add_left_cancel_iff, Nat.left_eq_add, Nat.add_eq_left, cdX11_cut, F1, eq_false hl]
    exact hq h m0 sOff.rf
end MV2
