
/-! the model: quarrels, cut -/
section MT2
variable {n : Nat} {h : aH} {Q : aQ} {M : MS} {c : Nat → Int32} {a : Nat → Nat → Int32} {l : Nat → Nat → Int64} {g : Nat → Int32} {q o law t : Nat} {s : pT} {sm : Int32}
theorem rk_on {x : Int32} : ∀ m j, j < pcN x m → ∃ r, r < m ∧ bt x r = true ∧ pcN x r = j
  | 0, j, h => by rw [pcN] at h; omega
  | m + 1, j, h => by
    rw [pcN] at h
    by_cases e : j < pcN x m
    · obtain ⟨r, h1, h2⟩ := rk_on m j e; exact ⟨r, by omega, h2⟩
    · cases hb : bt x m with
      | true => rw [hb] at h; exact ⟨m, by omega, hb, by have : b2n true = 1 := rfl; omega⟩
      | false => rw [hb] at h; have : b2n false = 0 := rfl; omega
theorem c33 {c c' : Nat → Int32} {i : Nat} {x : Int64} (h1 : x = (c i).toInt64) (h2 : x = (c' i).toInt64) : c' i = c i := by
  have := h2.symm.trans h1
  rw [il_eq] at this
  exact this
set_option maxRecDepth 100000 in
set_option maxHeartbeats 400000 in
theorem D_qBy (m : MH h c a l) (rd : rdy M s c a l) (ok : MOk M) (hk : sOk s) (ho : o < s.1) (hlaw : law < 7) (hsm : ∀ i, M.nr ≤ i → bt sm i = false) (hq : ∀ h' c' a', MH h' c' a' l → rdy M s c' a' l → sOff h h' 52 80 → Q (some (.int (if bkS s M.f M.nr law (M.ru &&& M.fa) o sm = true then 1 else 0))) n h') : Ok 212 [.ref 52, .int (nI law), .int (nI o), .int sm] n h Q := by
  have hnr := ok.nr
  refine ok_of kMX11_quarrelsBy kCX11_quarrelsBy (Nat.le_of_ble_eq_true rfl) (fun z => ?_)
  change A z _ _ 0 0 _ 0 [some (.ref 52), some (.int (nI law)), some (.int (nI o)), some (.int sm)] [] _
  refine go_ok okF1 (C := cdX11_quarrelsBy) (by rfl) [] 20 (by exact Nat.le_of_ble_eq_true rfl) ?_
  simp (maxSteps := 2000000) only [go, stp, inS, ↓reduceIte, Bool.false_eq_true, Nat.reduceLT, Nat.reduceEqDiff, Nat.reduceAdd, ldI, ldL, ldA, st1, st2, okS, List.getElem?_cons_zero, List.getElem?_cons_succ, List.length_cons, List.length_nil, List.set_cons_zero, List.set_cons_succ, callP, callF, popN, ct, Value.category, cI, List.getD_cons_zero, List.getD_cons_succ, and_self, and_true, true_and, Nat.zero_le, Nat.reduceLeDiff, Nat.add_zero, Nat.zero_add, List.nil_append, List.cons_append, Option.toList_some, Option.toList_none, List.append_nil, hset_ss, true_or, or_true, eq_self, beq_self_eq_true, List.drop_succ_cons, List.drop_zero, swT, swL, hset_ap, not_true_eq_false, not_false_eq_true, true_implies, false_implies, implies_true, Int32.reduceLE, Int32.reduceLT, Int32.reduceAdd, Int32.reduceSub, Int32.reduceOfInt, Int32.reduceToNatClampNeg, i10, i01, Nat.add_left_cancel_iff, Nat.left_eq_add, Nat.add_eq_left, cdX11_quarrelsBy, F1, m.o]
  refine D_asksM m rd ok (fun h1 c1 a1 m1 r1 h7 hg o1 => ?_)
  have hp := pcN_le sm M.nr
  refine go_ok okF1 (C := cdX11_quarrelsBy) (by rfl) [] 20 (by exact Nat.le_of_ble_eq_true rfl) ?_
  simp (maxSteps := 2000000) only [go, stp, inS, ↓reduceIte, Bool.false_eq_true, Nat.reduceLT, Nat.reduceEqDiff, Nat.reduceAdd, ldI, ldL, ldA, st1, st2, okS, List.getElem?_cons_zero, List.getElem?_cons_succ, List.length_cons, List.length_nil, List.set_cons_zero, List.set_cons_succ, callP, callF, popN, ct, Value.category, cI, List.getD_cons_zero, List.getD_cons_succ, and_self, and_true, true_and, Nat.zero_le, Nat.reduceLeDiff, Nat.add_zero, Nat.zero_add, List.nil_append, List.cons_append, Option.toList_some, Option.toList_none, List.append_nil, hset_ss, true_or, or_true, eq_self, beq_self_eq_true, List.drop_succ_cons, List.drop_zero, swT, swL, hset_ap, not_true_eq_false, not_false_eq_true, true_implies, false_implies, implies_true, Int32.reduceLE, Int32.reduceLT, Int32.reduceAdd, Int32.reduceSub, Int32.reduceOfInt, Int32.reduceToNatClampNeg, i10, i01, Nat.add_left_cancel_iff, Nat.left_eq_add, Nat.add_eq_left, cdX11_quarrelsBy, F1, m1.o]
  refine D_qFrom (g := a1 8) (q := pcN sm M.nr) m1 ⟨r1, h7, rfl⟩ (by omega) hk ho (fun i hi => ?_) hlaw (fun h2 c2 a2 m2 k2 o2 => ?_)
  · obtain ⟨r, h1, h2, h3⟩ := rk_on (x := sm) M.nr (i / 3) (by omega)
    have := hg r h1 h2 (i % 3) (by omega)
    rw [h3, show i / 3 * 3 + i % 3 = i by omega] at this
    rw [this]; exact ok.cv _ (by omega)
  · refine go_ok okF1 (C := cdX11_quarrelsBy) (by rfl) [] 20 (by exact Nat.le_of_ble_eq_true rfl) ?_
    simp (maxSteps := 2000000) only [go, stp, inS, ↓reduceIte, Bool.false_eq_true, Nat.reduceLT, Nat.reduceEqDiff, Nat.reduceAdd, ldI, ldL, ldA, st1, st2, okS, List.getElem?_cons_zero, List.getElem?_cons_succ, List.length_cons, List.length_nil, List.set_cons_zero, List.set_cons_succ, callP, callF, popN, ct, Value.category, cI, List.getD_cons_zero, List.getD_cons_succ, and_self, and_true, true_and, Nat.zero_le, Nat.reduceLeDiff, Nat.add_zero, Nat.zero_add, List.nil_append, List.cons_append, Option.toList_some, Option.toList_none, List.append_nil, hset_ss, true_or, or_true, eq_self, beq_self_eq_true, List.drop_succ_cons, List.drop_zero, swT, swL, hset_ap, not_true_eq_false, not_false_eq_true, true_implies, false_implies, implies_true, Int32.reduceLE, Int32.reduceLT, Int32.reduceAdd, Int32.reduceSub, Int32.reduceOfInt, Int32.reduceToNatClampNeg, i10, i01, Nat.add_left_cancel_iff, Nat.left_eq_add, Nat.add_eq_left, cdX11_quarrelsBy, F1]
    have e : lwQ M s (a1 8) (pcN sm M.nr) o law = bkS s M.f M.nr law (M.ru &&& M.fa) o sm := by
      unfold lwQ bkS bkE
      exact (lw_comp (V := fun r => evS s M.f (bt (M.ru &&& M.fa)) r o) (V' := fun r => evS s (a1 8) (bt (M.ru &&& M.fa)) r o) hlaw (by omega) hsm hg (fun r hr hb => evS_row (d := bt (M.ru &&& M.fa)) (k := o) hk (fun k h3 => hg r hr hb k h3) ho)).symm
    rw [e]
    exact ⟨by split <;> simp, hq h2 c2 a2 m2 k2.1 (o1.tr o2)⟩
theorem bkM_t (ok : MOk M) (ht : t < 2) (hw : pwB (M.s t) = true) {dn : Int32} {k : Nat} (hk : k < (M.s t).1) : bkS (sM M t) M.f M.nr law dn k sm = bkM M (M.s t) law dn k sm := bkS_pR (ok.pi t ht) (pwB_iff.mp hw) (ok.pr t ht) hk
set_option maxRecDepth 100000 in
set_option maxHeartbeats 400000 in
theorem D_quarrels {x l0 : Int32} (m : MI h M) (ok : MOk M) (hq : ∀ h', MI h' M → sOff h h' 52 80 → Q (some (.int (stQuar M x l0))) n h') : Ok 235 [.ref 52, .int x, .int l0] n h Q := by
  unfold stQuar at hq
  have hnr := ok.nr
  have m0 := m
  obtain ⟨c, a, l, m, r⟩ := m
  refine ok_of kMX11_quarrels kCX11_quarrels (Nat.le_of_ble_eq_true rfl) (fun z => ?_)
  change A z _ _ 0 0 _ 0 [some (.ref 52), some (.int x), some (.int l0), none] [] _
  by_cases hx : 0 ≤ x ∧ x < 2
  · by_cases hl : 0 ≤ l0 ∧ l0 < 7
    · rw [if_pos ⟨hx, hl⟩] at hq
      obtain ⟨law, hlaw, rfl⟩ := i_of (n := 7) (by omega) (i_nlt.mpr hl.1) hl.2
      rw [i_cl (show law < 2147483648 by omega)] at hq
      refine go_ok okF1 (C := cdX11_quarrels) (by rfl) [] 40 (by exact Nat.le_of_ble_eq_true rfl) ?_
      simp (maxSteps := 2000000) only [go, stp, inS, ↓reduceIte, Bool.false_eq_true, Nat.reduceLT, Nat.reduceEqDiff, Nat.reduceAdd, ldI, ldL, ldA, st1, st2, okS, List.getElem?_cons_zero, List.getElem?_cons_succ, List.length_cons, List.length_nil, List.set_cons_zero, List.set_cons_succ, callP, callF, popN, ct, Value.category, cI, List.getD_cons_zero, List.getD_cons_succ, and_self, and_true, true_and, Nat.zero_le, Nat.reduceLeDiff, Nat.add_zero, Nat.zero_add, List.nil_append, List.cons_append, Option.toList_some, Option.toList_none, List.append_nil, hset_ss, true_or, or_true, eq_self, beq_self_eq_true, List.drop_succ_cons, List.drop_zero, swT, swL, hset_ap, not_true_eq_false, not_false_eq_true, true_implies, false_implies, implies_true, Int32.reduceLE, Int32.reduceLT, Int32.reduceAdd, Int32.reduceSub, Int32.reduceOfInt, Int32.reduceToNatClampNeg, i10, i01, Nat.add_left_cancel_iff, Nat.left_eq_add, Nat.add_eq_left, cdX11_quarrels, F1, eq_true hx, eq_true hl, m.o]
      refine D_without m0 ok (fun e => absurd hx e) (fun t ht e hw h' m' o => ?_) (fun t ht e hw h1 c1 a1 l1 m1 k1 o1 => ?_)
      · subst e
        rw [i_cl (show t < 2147483648 by omega), if_neg hw] at hq
        refine go_ok okF1 (C := cdX11_quarrels) (by rfl) [] 40 (by exact Nat.le_of_ble_eq_true rfl) ?_
        simp (maxSteps := 2000000) only [go, stp, inS, ↓reduceIte, Bool.false_eq_true, Nat.reduceLT, Nat.reduceEqDiff, Nat.reduceAdd, ldI, ldL, ldA, st1, st2, okS, List.getElem?_cons_zero, List.getElem?_cons_succ, List.length_cons, List.length_nil, List.set_cons_zero, List.set_cons_succ, callP, callF, popN, ct, Value.category, cI, List.getD_cons_zero, List.getD_cons_succ, and_self, and_true, true_and, Nat.zero_le, Nat.reduceLeDiff, Nat.add_zero, Nat.zero_add, List.nil_append, List.cons_append, Option.toList_some, Option.toList_none, List.append_nil, hset_ss, true_or, or_true, eq_self, beq_self_eq_true, List.drop_succ_cons, List.drop_zero, swT, swL, hset_ap, not_true_eq_false, not_false_eq_true, true_implies, false_implies, implies_true, Int32.reduceLE, Int32.reduceLT, Int32.reduceAdd, Int32.reduceSub, Int32.reduceOfInt, Int32.reduceToNatClampNeg, i10, i01, Nat.add_left_cancel_iff, Nat.left_eq_add, Nat.add_eq_left, cdX11_quarrels, F1, m3n]
        exact hq h' m' o
      · subst e
        rw [i_cl (show t < 2147483648 by omega), if_pos hw] at hq
        have hk := ok.sok ht hw
        obtain ⟨rd, as, -⟩ := k1
        refine go_ok okF1 (C := cdX11_quarrels) (by rfl) [] 40 (by exact Nat.le_of_ble_eq_true rfl) ?_
        simp (maxSteps := 2000000) only [go, stp, inS, ↓reduceIte, Bool.false_eq_true, Nat.reduceLT, Nat.reduceEqDiff, Nat.reduceAdd, ldI, ldL, ldA, st1, st2, okS, List.getElem?_cons_zero, List.getElem?_cons_succ, List.length_cons, List.length_nil, List.set_cons_zero, List.set_cons_succ, callP, callF, popN, ct, Value.category, cI, List.getD_cons_zero, List.getD_cons_succ, and_self, and_true, true_and, Nat.zero_le, Nat.reduceLeDiff, Nat.add_zero, Nat.zero_add, List.nil_append, List.cons_append, Option.toList_some, Option.toList_none, List.append_nil, hset_ss, true_or, or_true, eq_self, beq_self_eq_true, List.drop_succ_cons, List.drop_zero, swT, swL, hset_ap, not_true_eq_false, not_false_eq_true, true_implies, false_implies, implies_true, Int32.reduceLE, Int32.reduceLT, Int32.reduceAdd, Int32.reduceSub, Int32.reduceOfInt, Int32.reduceToNatClampNeg, i10, i01, Nat.add_left_cancel_iff, Nat.left_eq_add, Nat.add_eq_left, cdX11_quarrels, F1, m1.o]
        refine D_qFrom (o := 0) (g := a1 8) (q := M.nr) m1 ⟨rd, as.1, rfl⟩ hnr hk hk.1 (fun i hi => by rw [as.2.2 i hi]; exact ok.cv i hi) hlaw (fun h2 c2 a2 m2 k2 o2 => ?_)
        have e : lwQ M (sM M t) (a1 8) M.nr 0 law = bkM M (M.s t) law (M.ru &&& M.fa) 0 (alm M.nr) := by
          rw [← bkM_t ok ht hw (ok.pz0 ht hw), ← bkS_ext hk (by omega) as.2.2 hk.1]
          rfl
        rw [e]
        have fin := hq h2 ⟨_, _, _, m2, k2.1.1⟩ (o1.tr o2)
        by_cases hb : bkM M (M.s t) law (M.ru &&& M.fa) 0 (alm M.nr) = true
        · rw [if_pos hb] at fin ⊢
          refine go_ok okF1 (C := cdX11_quarrels) (by rfl) [] 40 (by exact Nat.le_of_ble_eq_true rfl) ?_
          simp (maxSteps := 2000000) only [go, stp, inS, ↓reduceIte, Bool.false_eq_true, Nat.reduceLT, Nat.reduceEqDiff, Nat.reduceAdd, ldI, ldL, ldA, st1, st2, okS, List.getElem?_cons_zero, List.getElem?_cons_succ, List.length_cons, List.length_nil, List.set_cons_zero, List.set_cons_succ, callP, callF, popN, ct, Value.category, cI, List.getD_cons_zero, List.getD_cons_succ, and_self, and_true, true_and, Nat.zero_le, Nat.reduceLeDiff, Nat.add_zero, Nat.zero_add, List.nil_append, List.cons_append, Option.toList_some, Option.toList_none, List.append_nil, hset_ss, true_or, or_true, eq_self, beq_self_eq_true, List.drop_succ_cons, List.drop_zero, swT, swL, hset_ap, not_true_eq_false, not_false_eq_true, true_implies, false_implies, implies_true, Int32.reduceLE, Int32.reduceLT, Int32.reduceAdd, Int32.reduceSub, Int32.reduceOfInt, Int32.reduceToNatClampNeg, i10, i01, Nat.add_left_cancel_iff, Nat.left_eq_add, Nat.add_eq_left, cdX11_quarrels, F1]
          exact fin
        · rw [if_neg hb] at fin ⊢
          refine go_ok okF1 (C := cdX11_quarrels) (by rfl) [] 40 (by exact Nat.le_of_ble_eq_true rfl) ?_
          simp (maxSteps := 2000000) only [go, stp, inS, ↓reduceIte, Bool.false_eq_true, Nat.reduceLT, Nat.reduceEqDiff, Nat.reduceAdd, ldI, ldL, ldA, st1, st2, okS, List.getElem?_cons_zero, List.getElem?_cons_succ, List.length_cons, List.length_nil, List.set_cons_zero, List.set_cons_succ, callP, callF, popN, ct, Value.category, cI, List.getD_cons_zero, List.getD_cons_succ, and_self, and_true, true_and, Nat.zero_le, Nat.reduceLeDiff, Nat.add_zero, Nat.zero_add, List.nil_append, List.cons_append, Option.toList_some, Option.toList_none, List.append_nil, hset_ss, true_or, or_true, eq_self, beq_self_eq_true, List.drop_succ_cons, List.drop_zero, swT, swL, hset_ap, not_true_eq_false, not_false_eq_true, true_implies, false_implies, implies_true, Int32.reduceLE, Int32.reduceLT, Int32.reduceAdd, Int32.reduceSub, Int32.reduceOfInt, Int32.reduceToNatClampNeg, i10, i01, Nat.add_left_cancel_iff, Nat.left_eq_add, Nat.add_eq_left, cdX11_quarrels, F1]
          exact fin
    · rw [if_neg (fun q => hl q.2)] at hq
      refine go_ok okF1 (C := cdX11_quarrels) (by rfl) [] 40 (by exact Nat.le_of_ble_eq_true rfl) ?_
      simp (maxSteps := 2000000) only [go, stp, inS, ↓reduceIte, Bool.false_eq_true, Nat.reduceLT, Nat.reduceEqDiff, Nat.reduceAdd, ldI, ldL, ldA, st1, st2, okS, List.getElem?_cons_zero, List.getElem?_cons_succ, List.length_cons, List.length_nil, List.set_cons_zero, List.set_cons_succ, callP, callF, popN, ct, Value.category, cI, List.getD_cons_zero, List.getD_cons_succ, and_self, and_true, true_and, Nat.zero_le, Nat.reduceLeDiff, Nat.add_zero, Nat.zero_add, List.nil_append, List.cons_append, Option.toList_some, Option.toList_none, List.append_nil, hset_ss, true_or, or_true, eq_self, beq_self_eq_true, List.drop_succ_cons, List.drop_zero, swT, swL, hset_ap, not_true_eq_false, not_false_eq_true, true_implies, false_implies, implies_true, Int32.reduceLE, Int32.reduceLT, Int32.reduceAdd, Int32.reduceSub, Int32.reduceOfInt, Int32.reduceToNatClampNeg, i10, i01, Nat.add_left_cancel_iff, Nat.left_eq_add, Nat.add_eq_left, cdX11_quarrels, F1, eq_true hx, eq_false hl]
      exact hq h m0 sOff.rf
  · rw [if_neg (fun q => hx q.1)] at hq
    refine go_ok okF1 (C := cdX11_quarrels) (by rfl) [] 40 (by exact Nat.le_of_ble_eq_true rfl) ?_
    simp (maxSteps := 2000000) only [go, stp, inS, ↓reduceIte, Bool.false_eq_true, Nat.reduceLT, Nat.reduceEqDiff, Nat.reduceAdd, ldI, ldL, ldA, st1, st2, okS, List.getElem?_cons_zero, List.getElem?_cons_succ, List.length_cons, List.length_nil, List.set_cons_zero, List.set_cons_succ, callP, callF, popN, ct, Value.category, cI, List.getD_cons_zero, List.getD_cons_succ, and_self, and_true, true_and, Nat.zero_le, Nat.reduceLeDiff, Nat.add_zero, Nat.zero_add, List.nil_append, List.cons_append, Option.toList_some, Option.toList_none, List.append_nil, hset_ss, true_or, or_true, eq_self, beq_self_eq_true, List.drop_succ_cons, List.drop_zero, swT, swL, hset_ap, not_true_eq_false, not_false_eq_true, true_implies, false_implies, implies_true, Int32.reduceLE, Int32.reduceLT, Int32.reduceAdd, Int32.reduceSub, Int32.reduceOfInt, Int32.reduceToNatClampNeg, i10, i01, Nat.add_left_cancel_iff, Nat.left_eq_add, Nat.add_eq_left, cdX11_quarrels, F1, eq_false hx]
    exact hq h m0 sOff.rf
theorem rdy.st (rd : rdy M s c a l) (v : Int32) : rdy M s (upd c 33 v) a (kL l (upd c 33 v)) := by
  obtain ⟨r, s1, s2, s3, s4⟩ := rd
  exact ⟨r.fr rfl rfl rfl rfl rfl rfl rfl rfl rfl rfl, s1, s2, rfl, rfl⟩
theorem rdy.rt (rd : rdy M s c a l) (v : Int32) : rdy M s (upd c 34 v) a (kL l (upd c 34 v)) := by
  obtain ⟨r, s1, s2, s3, s4⟩ := rd
  exact ⟨r.fr rfl rfl rfl rfl rfl rfl rfl rfl rfl rfl, s1, s2, rfl, rfl⟩
end MT2
