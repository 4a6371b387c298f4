
/-! the model: cut -/
section MU2
variable {n : Nat} {h : aH} {Q : aQ} {M : MS} {c : Nat → Int32} {a : Nat → Nat → Int32} {l : Nat → Nat → Int64} {law : Nat} {s : pT}
theorem few_bt (x : Int32) {r i : Nat} (hr : r < 32) (hi : i < 32) : bt (few x r) i = (bt x i && !decide (i = r)) := by
  unfold few; rw [b_and, b_not _ hi, b_pw r hr i hi]
theorem few_pc {x : Int32} {r m : Nat} (hr : r < m) (hm : m ≤ 32) (hb : bt x r = true) : pcN (few x r) m + 1 = pcN x m := by
  have e : few x r ||| ((1 : Int32) <<< (nI r &&& 31)) = x := b_ext fun i hi => by
    rw [b_or, few_bt x (by omega) hi, b_pw r (by omega) i hi]
    by_cases e : i = r
    · subst e; rw [hb]; simp
    · simp [e]
  have := pcN_or (x := few x r) (b := r) (by omega) (by rw [few_bt x (by omega) (by omega)]; simp) m hm
  rw [e, if_pos hr] at this
  omega
theorem few_eq {x : Int32} {r : Nat} (hr : r < 32) : (few x r == x) = !bt x r := by
  rw [Bool.eq_iff_iff, beq_iff_eq]
  constructor
  · intro e
    have := few_bt x hr hr
    rw [e] at this
    simp at this
    rw [this]; rfl
  · intro e
    refine b_ext fun i hi => ?_
    rw [few_bt x hr hi]
    by_cases er : i = r
    · subst er
      cases hb : bt x i
      · simp
      · rw [hb] at e; cases e
    · simp [er]
noncomputable def bkC (M : MS) (s : pT) (law : Nat) : Nat → Int32 → Bool := fun k x => bkS s M.f M.nr law (M.ru &&& M.fa) k x
noncomputable def cutQ (M : MS) (s : pT) (law : Nat) : Int32 × Nat := cutF (bkC M s law) (sz (sG s) s.1) 48 (alm M.nr, 0)
set_option maxRecDepth 100000 in
set_option maxHeartbeats 400000 in
theorem D_cuts (m : MH h c a l) (rd : rdy M s c a l) (ok : MOk M) (hk : sOk s) (hlaw : law < 7) (hq : ∀ h' c' a' l', MH h' c' a' l' → rdy M s c' a' l' → c' 33 = (cutQ M s law).1 → c' 34 = nI (cutQ M s law).2 → (cutQ M s law).2 < s.1 → sOff h h' 52 80 → Q none n h') : Ok 213 [.ref 52, .int (nI law)] n h Q := by
  have hnr := ok.nr
  have h40 := hk.2.1
  refine ok_of kMX11_cuts kCX11_cuts (Nat.le_of_ble_eq_true rfl) (fun z => ?_)
  change A z _ _ 0 0 _ 0 [some (.ref 52), some (.int (nI law)), none, none, none] [] _
  refine go_ok okF1 (C := cdX11_cuts) (by rfl) [] 40 (by exact Nat.le_of_ble_eq_true rfl) ?_
  simp (maxSteps := 2000000) only [go, stp, inS, ↓reduceIte, Bool.false_eq_true, Nat.reduceLT, Nat.reduceEqDiff, Nat.reduceAdd, ldI, ldL, ldA, st1, st2, okS, List.getElem?_cons_zero, List.getElem?_cons_succ, List.length_cons, List.length_nil, List.set_cons_zero, List.set_cons_succ, callP, callF, popN, ct, Value.category, cI, List.getD_cons_zero, List.getD_cons_succ, and_self, and_true, true_and, Nat.zero_le, Nat.reduceLeDiff, Nat.add_zero, Nat.zero_add, List.nil_append, List.cons_append, Option.toList_some, Option.toList_none, List.append_nil, hset_ss, true_or, or_true, eq_self, beq_self_eq_true, List.drop_succ_cons, List.drop_zero, swT, swL, hset_ap, not_true_eq_false, not_false_eq_true, true_implies, false_implies, implies_true, Int32.reduceLE, Int32.reduceLT, Int32.reduceAdd, Int32.reduceSub, Int32.reduceOfInt, Int32.reduceToNatClampNeg, i10, i01, Nat.add_left_cancel_iff, Nat.left_eq_add, Nat.add_eq_left, cdX11_cuts, F1, m.o]
  refine D_allRows m rd.1.nr ?_
  refine go_ok okF1 (C := cdX11_cuts) (by rfl) [15] 40 (by exact Nat.le_of_ble_eq_true rfl) ?_
  simp (maxSteps := 2000000) only [go, stp, inS, ↓reduceIte, Bool.false_eq_true, Nat.reduceLT, Nat.reduceEqDiff, Nat.reduceAdd, ldI, ldL, ldA, st1, st2, okS, List.getElem?_cons_zero, List.getElem?_cons_succ, List.length_cons, List.length_nil, List.set_cons_zero, List.set_cons_succ, callP, callF, popN, ct, Value.category, cI, List.getD_cons_zero, List.getD_cons_succ, and_self, and_true, true_and, Nat.zero_le, Nat.reduceLeDiff, Nat.add_zero, Nat.zero_add, List.nil_append, List.cons_append, Option.toList_some, Option.toList_none, List.append_nil, hset_ss, true_or, or_true, eq_self, beq_self_eq_true, List.drop_succ_cons, List.drop_zero, swT, swL, hset_ap, not_true_eq_false, not_false_eq_true, true_implies, false_implies, implies_true, Int32.reduceLE, Int32.reduceLT, Int32.reduceAdd, Int32.reduceSub, Int32.reduceOfInt, Int32.reduceToNatClampNeg, i10, i01, Nat.add_left_cancel_iff, Nat.left_eq_add, Nat.add_eq_left, cdX11_cuts, F1, m.o]
  have main : ∀ μ st rt h' c' a' l' l3 l4, pcN st M.nr + (s.1 - 1 - rt) ≤ μ → rt < s.1 → (∀ i, M.nr ≤ i → bt st i = false) → MH h' c' a' l' → rdy M s c' a' l' → c' 33 = st → c' 34 = nI rt → sOff h h' 52 80 → cutQ M s law = cutF (bkC M s law) (sz (sG s) s.1) (μ + 1) (st, rt) → A z 213 n 0 0 h' 15 [some (.ref 52), some (.int (nI law)), some (.int 1), l3, l4] [] Q := by
    intro μ
    induction μ using Nat.strongRecOn with
    | ind μ ih =>
      intro st rt h' c' a' l' l3 l4 hμ hrt hst m' r' h33 h34 hO hcut
      have hz := sz_wf hk.2.2.1 _ rt (Nat.le_refl _) hrt
      have hcut' := hcut
      rw [cutF_s] at hcut
      have next : ∀ st' rt' h2 c2 a2 l2 l3 l4, cutS (bkC M s law) (sz (sG s) s.1) (st, rt) = some (st', rt') → pcN st' M.nr + (s.1 - 1 - rt') + 1 ≤ pcN st M.nr + (s.1 - 1 - rt) → rt' < s.1 → (∀ i, M.nr ≤ i → bt st' i = false) → MH h2 c2 a2 l2 → rdy M s c2 a2 l2 → c2 33 = st' → c2 34 = nI rt' → sOff h h2 52 80 → A z 213 n 0 0 h2 15 [some (.ref 52), some (.int (nI law)), some (.int 1), l3, l4] [] Q := by
        intro st' rt' h2 c2 a2 l2 l3 l4 e1 e2 e3 e4 m2 r2 k33 k34 o2
        rw [e1] at hcut
        dsimp only at hcut
        refine ih (μ - 1) (by omega) st' rt' h2 c2 a2 l2 l3 l4 (by omega) e3 e4 m2 r2 k33 k34 o2 ?_
        rw [hcut, show μ - 1 + 1 = μ by omega]
      -- behind the rows, one having been left out
      have t91 : ∀ h2 c2 a2 l2 l3 l4, MH h2 c2 a2 l2 → rdy M s c2 a2 l2 → c2 34 = nI rt → (∀ l3 l4, A z 213 n 0 0 h2 15 [some (.ref 52), some (.int (nI law)), some (.int 1), l3, l4] [] Q) → A z 213 n 0 0 h2 91 [some (.ref 52), some (.int (nI law)), some (.int 1), l3, l4] [] Q := by
        intro h2 c2 a2 l2 l3 l4 m2 r2 k34 nx
        have z18 := r2.2.1.2 rt hrt
        by_cases e : nI (rt + sz (sG s) s.1 rt) ≤ nI (rt + 1)
        · refine go_ok okF1 (C := cdX11_cuts) (by rfl) [15] 60 (by exact Nat.le_of_ble_eq_true rfl) ?_
          simp (maxSteps := 2000000) only [go, stp, inS, ↓reduceIte, Bool.false_eq_true, Nat.reduceLT, Nat.reduceEqDiff, Nat.reduceAdd, ldI, ldL, ldA, st1, st2, okS, List.getElem?_cons_zero, List.getElem?_cons_succ, List.length_cons, List.length_nil, List.set_cons_zero, List.set_cons_succ, callP, callF, popN, ct, Value.category, cI, List.getD_cons_zero, List.getD_cons_succ, and_self, and_true, true_and, Nat.zero_le, Nat.reduceLeDiff, Nat.add_zero, Nat.zero_add, List.nil_append, List.cons_append, Option.toList_some, Option.toList_none, List.append_nil, hset_ss, true_or, or_true, eq_self, beq_self_eq_true, List.drop_succ_cons, List.drop_zero, swT, swL, hset_ap, not_true_eq_false, not_false_eq_true, true_implies, false_implies, implies_true, Int32.reduceLE, Int32.reduceLT, Int32.reduceAdd, Int32.reduceSub, Int32.reduceOfInt, Int32.reduceToNatClampNeg, i10, i01, Nat.add_left_cancel_iff, Nat.left_eq_add, Nat.add_eq_left, cdX11_cuts, F1, m2.o, k34, m2.a18, i_cl (show rt < 2147483648 by omega), z18, nI_add, nI_1, eq_true e]
          repeat refine ⟨vp_in_nI (by omega) (by omega), ?_⟩
          exact nx _ _
        · refine go_ok okF1 (C := cdX11_cuts) (by rfl) [15] 60 (by exact Nat.le_of_ble_eq_true rfl) ?_
          simp (maxSteps := 2000000) only [go, stp, inS, ↓reduceIte, Bool.false_eq_true, Nat.reduceLT, Nat.reduceEqDiff, Nat.reduceAdd, ldI, ldL, ldA, st1, st2, okS, List.getElem?_cons_zero, List.getElem?_cons_succ, List.length_cons, List.length_nil, List.set_cons_zero, List.set_cons_succ, callP, callF, popN, ct, Value.category, cI, List.getD_cons_zero, List.getD_cons_succ, and_self, and_true, true_and, Nat.zero_le, Nat.reduceLeDiff, Nat.add_zero, Nat.zero_add, List.nil_append, List.cons_append, Option.toList_some, Option.toList_none, List.append_nil, hset_ss, true_or, or_true, eq_self, beq_self_eq_true, List.drop_succ_cons, List.drop_zero, swT, swL, hset_ap, not_true_eq_false, not_false_eq_true, true_implies, false_implies, implies_true, Int32.reduceLE, Int32.reduceLT, Int32.reduceAdd, Int32.reduceSub, Int32.reduceOfInt, Int32.reduceToNatClampNeg, i10, i01, Nat.add_left_cancel_iff, Nat.left_eq_add, Nat.add_eq_left, cdX11_cuts, F1, m2.o, k34, m2.a18, i_cl (show rt < 2147483648 by omega), z18, nI_add, nI_1, e]
          repeat refine ⟨vp_in_nI (by omega) (by omega), ?_⟩
          exact nx _ _
      -- acts in the test
      have acts : (∀ j, j < M.nr → ((!(few st j == st)) && bkC M s law rt (few st j)) = false) → ∀ w k h2 c2 a2 l2, rt + 1 ≤ k → k + w = rt + sz (sG s) s.1 rt → (∀ j, rt + 1 ≤ j → j < k → bkC M s law j st = false) → MH h2 c2 a2 l2 → rdy M s c2 a2 l2 → c2 33 = st → c2 34 = nI rt → sOff h h2 52 80 → A z 213 n 0 0 h2 114 [some (.ref 52), some (.int (nI law)), some (.int 0), some (.int (nI (rt + sz (sG s) s.1 rt))), some (.int (nI k))] [] Q := by
        intro hrows w
        have n8 : fstR (fun r => !(few st r == st) && bkC M s law rt (few st r)) 8 0 = none := fstR_no.mpr (fun j _ hj => by
          rcases Nat.lt_or_ge j M.nr with q | q
          · exact hrows j q
          · rw [few_eq (by omega), hst j q]; rfl)
        induction w with
        | zero =>
          intro k h2 c2 a2 l2 k1 hw hf m2 r2 k33 k34 o2
          refine go_ok okF1 (C := cdX11_cuts) (by rfl) [] 60 (by exact Nat.le_of_ble_eq_true rfl) ?_
          simp (maxSteps := 2000000) only [go, stp, inS, ↓reduceIte, Bool.false_eq_true, Nat.reduceLT, Nat.reduceEqDiff, Nat.reduceAdd, ldI, ldL, ldA, st1, st2, okS, List.getElem?_cons_zero, List.getElem?_cons_succ, List.length_cons, List.length_nil, List.set_cons_zero, List.set_cons_succ, callP, callF, popN, ct, Value.category, cI, List.getD_cons_zero, List.getD_cons_succ, and_self, and_true, true_and, Nat.zero_le, Nat.reduceLeDiff, Nat.add_zero, Nat.zero_add, List.nil_append, List.cons_append, Option.toList_some, Option.toList_none, List.append_nil, hset_ss, true_or, or_true, eq_self, beq_self_eq_true, List.drop_succ_cons, List.drop_zero, swT, swL, hset_ap, not_true_eq_false, not_false_eq_true, true_implies, false_implies, implies_true, Int32.reduceLE, Int32.reduceLT, Int32.reduceAdd, Int32.reduceSub, Int32.reduceOfInt, Int32.reduceToNatClampNeg, i10, i01, Nat.add_left_cancel_iff, Nat.left_eq_add, Nat.add_eq_left, cdX11_cuts, F1, (show nI (rt + sz (sG s) s.1 rt) ≤ nI k from (i_le (by omega) (by omega)).mpr (by omega))]
          have cS : cutS (bkC M s law) (sz (sG s) s.1) (st, rt) = none := by
            unfold cutS
            dsimp only
            rw [n8]
            dsimp only
            rw [fstR_no.mpr (fun j h1 h2 => hf j h1 (by omega))]
          rw [cS] at hcut
          dsimp only at hcut
          have := hq h2 c2 a2 l2 m2 r2
          rw [hcut] at this
          exact this k33 k34 hrt o2
        | succ w ihw =>
          intro k h2 c2 a2 l2 k1 hw hf m2 r2 k33 k34 o2
          have e : ¬ nI (rt + sz (sG s) s.1 rt) ≤ nI k := by rw [i_le (by omega) (by omega)]; omega
          refine go_ok okF1 (C := cdX11_cuts) (by rfl) [] 60 (by exact Nat.le_of_ble_eq_true rfl) ?_
          simp (maxSteps := 2000000) only [go, stp, inS, ↓reduceIte, Bool.false_eq_true, Nat.reduceLT, Nat.reduceEqDiff, Nat.reduceAdd, ldI, ldL, ldA, st1, st2, okS, List.getElem?_cons_zero, List.getElem?_cons_succ, List.length_cons, List.length_nil, List.set_cons_zero, List.set_cons_succ, callP, callF, popN, ct, Value.category, cI, List.getD_cons_zero, List.getD_cons_succ, and_self, and_true, true_and, Nat.zero_le, Nat.reduceLeDiff, Nat.add_zero, Nat.zero_add, List.nil_append, List.cons_append, Option.toList_some, Option.toList_none, List.append_nil, hset_ss, true_or, or_true, eq_self, beq_self_eq_true, List.drop_succ_cons, List.drop_zero, swT, swL, hset_ap, not_true_eq_false, not_false_eq_true, true_implies, false_implies, implies_true, Int32.reduceLE, Int32.reduceLT, Int32.reduceAdd, Int32.reduceSub, Int32.reduceOfInt, Int32.reduceToNatClampNeg, i10, i01, Nat.add_left_cancel_iff, Nat.left_eq_add, Nat.add_eq_left, cdX11_cuts, F1, e, m2.o, k33]
          refine D_qBy m2 r2 ok hk (o := k) (by omega) hlaw hst (fun h3 c3 a3 m3 r3 o3 => ?_)
          have j33 : c3 33 = st := (c33 r2.2.2.2.1 r3.2.2.2.1).trans k33
          have j34 : c3 34 = nI rt := (c33 r2.2.2.2.2 r3.2.2.2.2).trans k34
          by_cases hb : bkS s M.f M.nr law (M.ru &&& M.fa) k st = true
          · rw [if_pos hb]
            have cS : cutS (bkC M s law) (sz (sG s) s.1) (st, rt) = some (st, k) := by
              unfold cutS
              dsimp only
              rw [n8]
              dsimp only
              rw [fstR_of k1 (by omega) hb (fun j h1 h2 => hf j h1 h2)]
            have nx := fun l3 l4 => next st k _ (upd c3 34 (nI k)) a3 _ l3 l4 cS (by omega) (by omega) hst ((m3.sc (upd c3 34 (nI k))).kl (upd c3 34 (nI k))) (r3.rt (nI k)) j33 rfl ((o2.tr o3).set (by omega) (by omega))
            by_cases e2 : nI (rt + sz (sG s) s.1 rt) ≤ nI (k + 1)
            · refine go_ok okF1 (C := cdX11_cuts) (by rfl) [15] 60 (by exact Nat.le_of_ble_eq_true rfl) ?_
              simp (maxSteps := 2000000) only [go, stp, inS, ↓reduceIte, Bool.false_eq_true, Nat.reduceLT, Nat.reduceEqDiff, Nat.reduceAdd, ldI, ldL, ldA, st1, st2, okS, List.getElem?_cons_zero, List.getElem?_cons_succ, List.length_cons, List.length_nil, List.set_cons_zero, List.set_cons_succ, callP, callF, popN, ct, Value.category, cI, List.getD_cons_zero, List.getD_cons_succ, and_self, and_true, true_and, Nat.zero_le, Nat.reduceLeDiff, Nat.add_zero, Nat.zero_add, List.nil_append, List.cons_append, Option.toList_some, Option.toList_none, List.append_nil, hset_ss, true_or, or_true, eq_self, beq_self_eq_true, List.drop_succ_cons, List.drop_zero, swT, swL, hset_ap, not_true_eq_false, not_false_eq_true, true_implies, false_implies, implies_true, Int32.reduceLE, Int32.reduceLT, Int32.reduceAdd, Int32.reduceSub, Int32.reduceOfInt, Int32.reduceToNatClampNeg, i10, i01, Nat.add_left_cancel_iff, Nat.left_eq_add, Nat.add_eq_left, cdX11_cuts, F1, m3.o, nI_1, eq_true e2]
              exact nx _ _
            · refine go_ok okF1 (C := cdX11_cuts) (by rfl) [15] 60 (by exact Nat.le_of_ble_eq_true rfl) ?_
              simp (maxSteps := 2000000) only [go, stp, inS, ↓reduceIte, Bool.false_eq_true, Nat.reduceLT, Nat.reduceEqDiff, Nat.reduceAdd, ldI, ldL, ldA, st1, st2, okS, List.getElem?_cons_zero, List.getElem?_cons_succ, List.length_cons, List.length_nil, List.set_cons_zero, List.set_cons_succ, callP, callF, popN, ct, Value.category, cI, List.getD_cons_zero, List.getD_cons_succ, and_self, and_true, true_and, Nat.zero_le, Nat.reduceLeDiff, Nat.add_zero, Nat.zero_add, List.nil_append, List.cons_append, Option.toList_some, Option.toList_none, List.append_nil, hset_ss, true_or, or_true, eq_self, beq_self_eq_true, List.drop_succ_cons, List.drop_zero, swT, swL, hset_ap, not_true_eq_false, not_false_eq_true, true_implies, false_implies, implies_true, Int32.reduceLE, Int32.reduceLT, Int32.reduceAdd, Int32.reduceSub, Int32.reduceOfInt, Int32.reduceToNatClampNeg, i10, i01, Nat.add_left_cancel_iff, Nat.left_eq_add, Nat.add_eq_left, cdX11_cuts, F1, m3.o, nI_1, e2]
              exact nx _ _
          · rw [if_neg hb]
            refine go_ok okF1 (C := cdX11_cuts) (by rfl) [114] 60 (by exact Nat.le_of_ble_eq_true rfl) ?_
            simp (maxSteps := 2000000) only [go, stp, inS, ↓reduceIte, Bool.false_eq_true, Nat.reduceLT, Nat.reduceEqDiff, Nat.reduceAdd, ldI, ldL, ldA, st1, st2, okS, List.getElem?_cons_zero, List.getElem?_cons_succ, List.length_cons, List.length_nil, List.set_cons_zero, List.set_cons_succ, callP, callF, popN, ct, Value.category, cI, List.getD_cons_zero, List.getD_cons_succ, and_self, and_true, true_and, Nat.zero_le, Nat.reduceLeDiff, Nat.add_zero, Nat.zero_add, List.nil_append, List.cons_append, Option.toList_some, Option.toList_none, List.append_nil, hset_ss, true_or, or_true, eq_self, beq_self_eq_true, List.drop_succ_cons, List.drop_zero, swT, swL, hset_ap, not_true_eq_false, not_false_eq_true, true_implies, false_implies, implies_true, Int32.reduceLE, Int32.reduceLT, Int32.reduceAdd, Int32.reduceSub, Int32.reduceOfInt, Int32.reduceToNatClampNeg, i10, i01, Nat.add_left_cancel_iff, Nat.left_eq_add, Nat.add_eq_left, cdX11_cuts, F1, nI_1]
            refine ihw (k + 1) h3 c3 a3 l2 (by omega) (by omega) (fun j h1 h2 => ?_) m3 r3 j33 j34 (o2.tr o3)
            by_cases ej : j = k
            · subst ej; exact Bool.eq_false_iff.mpr hb
            · exact hf j h1 (by omega)
      -- the rows
      have rows : ∀ w r h2 c2 a2 l2 l4, r + w = M.nr → (∀ j, j < r → ((!(few st j == st)) && bkC M s law rt (few st j)) = false) → MH h2 c2 a2 l2 → rdy M s c2 a2 l2 → c2 33 = st → c2 34 = nI rt → sOff h h2 52 80 → A z 213 n 0 0 h2 23 [some (.ref 52), some (.int (nI law)), some (.int 0), some (.int (nI r)), l4] [] Q := by
        intro w
        induction w with
        | zero =>
          intro r h2 c2 a2 l2 l4 hw hf m2 r2 k33 k34 o2
          obtain rfl : r = M.nr := by omega
          have z18 := r2.2.1.2 rt hrt
          refine go_ok okF1 (C := cdX11_cuts) (by rfl) [114] 60 (by exact Nat.le_of_ble_eq_true rfl) ?_
          simp (maxSteps := 2000000) only [go, stp, inS, ↓reduceIte, Bool.false_eq_true, Nat.reduceLT, Nat.reduceEqDiff, Nat.reduceAdd, ldI, ldL, ldA, st1, st2, okS, List.getElem?_cons_zero, List.getElem?_cons_succ, List.length_cons, List.length_nil, List.set_cons_zero, List.set_cons_succ, callP, callF, popN, ct, Value.category, cI, List.getD_cons_zero, List.getD_cons_succ, and_self, and_true, true_and, Nat.zero_le, Nat.reduceLeDiff, Nat.add_zero, Nat.zero_add, List.nil_append, List.cons_append, Option.toList_some, Option.toList_none, List.append_nil, hset_ss, true_or, or_true, eq_self, beq_self_eq_true, List.drop_succ_cons, List.drop_zero, swT, swL, hset_ap, not_true_eq_false, not_false_eq_true, true_implies, false_implies, implies_true, Int32.reduceLE, Int32.reduceLT, Int32.reduceAdd, Int32.reduceSub, Int32.reduceOfInt, Int32.reduceToNatClampNeg, i10, i01, Nat.add_left_cancel_iff, Nat.left_eq_add, Nat.add_eq_left, cdX11_cuts, F1, m2.o, r2.1.nr, (show nI M.nr ≤ nI M.nr from (i_le (by omega) (by omega)).mpr (by omega)), k34, m2.a18, i_cl (show rt < 2147483648 by omega), z18, nI_add, nI_1]
          repeat refine ⟨vp_in_nI (by omega) (by omega), ?_⟩
          exact acts hf (sz (sG s) s.1 rt - 1) (rt + 1) h2 c2 a2 l2 (by omega) (by omega) (fun j h1 h2 => absurd h2 (by omega)) m2 r2 k33 k34 o2
        | succ w ihw =>
          intro r h2 c2 a2 l2 l4 hw hf m2 r2 k33 k34 o2
          have e : ¬ nI M.nr ≤ nI r := by rw [i_le (by omega) (by omega)]; omega
          have stay : ((!(few st r == st)) && bkC M s law rt (few st r)) = false → ∀ h3 c3 a3 l4, MH h3 c3 a3 l2 → rdy M s c3 a3 l2 → c3 33 = st → c3 34 = nI rt → sOff h h3 52 80 → A z 213 n 0 0 h3 85 [some (.ref 52), some (.int (nI law)), some (.int 0), some (.int (nI r)), l4] [] Q := fun hE h3 c3 a3 l4 m3 r3 j33 j34 o3 => by
            refine go_ok okF1 (C := cdX11_cuts) (by rfl) [23] 60 (by exact Nat.le_of_ble_eq_true rfl) ?_
            simp (maxSteps := 2000000) only [go, stp, inS, ↓reduceIte, Bool.false_eq_true, Nat.reduceLT, Nat.reduceEqDiff, Nat.reduceAdd, ldI, ldL, ldA, st1, st2, okS, List.getElem?_cons_zero, List.getElem?_cons_succ, List.length_cons, List.length_nil, List.set_cons_zero, List.set_cons_succ, callP, callF, popN, ct, Value.category, cI, List.getD_cons_zero, List.getD_cons_succ, and_self, and_true, true_and, Nat.zero_le, Nat.reduceLeDiff, Nat.add_zero, Nat.zero_add, List.nil_append, List.cons_append, Option.toList_some, Option.toList_none, List.append_nil, hset_ss, true_or, or_true, eq_self, beq_self_eq_true, List.drop_succ_cons, List.drop_zero, swT, swL, hset_ap, not_true_eq_false, not_false_eq_true, true_implies, false_implies, implies_true, Int32.reduceLE, Int32.reduceLT, Int32.reduceAdd, Int32.reduceSub, Int32.reduceOfInt, Int32.reduceToNatClampNeg, i10, i01, Nat.add_left_cancel_iff, Nat.left_eq_add, Nat.add_eq_left, cdX11_cuts, F1, nI_1]
            refine ihw (r + 1) h3 c3 a3 l2 _ (by omega) (fun j hj => ?_) m3 r3 j33 j34 o3
            by_cases ej : j = r
            · subst ej; exact hE
            · exact hf j (by omega)
          by_cases hb : bt st r = true
          · have hst2 : ∀ i, M.nr ≤ i → bt (few st r) i = false := fun i hi => by
              rcases Nat.lt_or_ge i 32 with h32 | h32
              · rw [few_bt st (by omega) h32, hst i hi]; rfl
              · exact b_big h32
            refine go_ok okF1 (C := cdX11_cuts) (by rfl) [85] 60 (by exact Nat.le_of_ble_eq_true rfl) ?_
            simp (maxSteps := 2000000) only [go, stp, inS, ↓reduceIte, Bool.false_eq_true, Nat.reduceLT, Nat.reduceEqDiff, Nat.reduceAdd, ldI, ldL, ldA, st1, st2, okS, List.getElem?_cons_zero, List.getElem?_cons_succ, List.length_cons, List.length_nil, List.set_cons_zero, List.set_cons_succ, callP, callF, popN, ct, Value.category, cI, List.getD_cons_zero, List.getD_cons_succ, and_self, and_true, true_and, Nat.zero_le, Nat.reduceLeDiff, Nat.add_zero, Nat.zero_add, List.nil_append, List.cons_append, Option.toList_some, Option.toList_none, List.append_nil, hset_ss, true_or, or_true, eq_self, beq_self_eq_true, List.drop_succ_cons, List.drop_zero, swT, swL, hset_ap, not_true_eq_false, not_false_eq_true, true_implies, false_implies, implies_true, Int32.reduceLE, Int32.reduceLT, Int32.reduceAdd, Int32.reduceSub, Int32.reduceOfInt, Int32.reduceToNatClampNeg, i10, i01, Nat.add_left_cancel_iff, Nat.left_eq_add, Nat.add_eq_left, cdX11_cuts, F1, m2.o, r2.1.nr, e, k33, k34, b_ask _ (show r < 32 by omega), hb]
            refine D_qBy m2 r2 ok hk (o := rt) hrt hlaw hst2 (fun h3 c3 a3 m3 r3 o3 => ?_)
            have j33 : c3 33 = st := (c33 r2.2.2.2.1 r3.2.2.2.1).trans k33
            have j34 : c3 34 = nI rt := (c33 r2.2.2.2.2 r3.2.2.2.2).trans k34
            change A z 213 n 0 0 h3 66 _ (some (Value.int (if bkS s M.f M.nr law (M.ru &&& M.fa) rt (few st r) = true then 1 else 0))).toList Q
            by_cases hq2 : bkS s M.f M.nr law (M.ru &&& M.fa) rt (few st r) = true
            · rw [if_pos hq2]
              have cS : cutS (bkC M s law) (sz (sG s) s.1) (st, rt) = some (few st r, rt) := by
                unfold cutS
                dsimp only
                rw [fstR_of (k := r) (by omega) (by omega) (by rw [few_eq (by omega), hb]; exact hq2) (fun j _ hj => hf j hj)]
              have fp := few_pc (x := st) (r := r) (m := M.nr) (by omega) (by omega) hb
              have m4 := (m3.sc (upd c3 33 (few st r))).kl (upd c3 33 (few st r))
              have nx := fun l3 l4 => next (few st r) rt _ (upd c3 33 (few st r)) a3 _ l3 l4 cS (by omega) hrt hst2 m4 (r3.st (few st r)) rfl j34 ((o2.tr o3).set (by omega) (by omega))
              have n91 := fun l3 l4 => t91 _ (upd c3 33 (few st r)) a3 _ l3 l4 m4 (r3.st (few st r)) j34 nx
              have r4 := r3.st (few st r)
              refine go_ok okF1 (C := cdX11_cuts) (by rfl) [85] 60 (by exact Nat.le_of_ble_eq_true rfl) ?_
              simp (maxSteps := 2000000) only [go, stp, inS, ↓reduceIte, Bool.false_eq_true, Nat.reduceLT, Nat.reduceEqDiff, Nat.reduceAdd, ldI, ldL, ldA, st1, st2, okS, List.getElem?_cons_zero, List.getElem?_cons_succ, List.length_cons, List.length_nil, List.set_cons_zero, List.set_cons_succ, callP, callF, popN, ct, Value.category, cI, List.getD_cons_zero, List.getD_cons_succ, and_self, and_true, true_and, Nat.zero_le, Nat.reduceLeDiff, Nat.add_zero, Nat.zero_add, List.nil_append, List.cons_append, Option.toList_some, Option.toList_none, List.append_nil, hset_ss, true_or, or_true, eq_self, beq_self_eq_true, List.drop_succ_cons, List.drop_zero, swT, swL, hset_ap, not_true_eq_false, not_false_eq_true, true_implies, false_implies, implies_true, Int32.reduceLE, Int32.reduceLT, Int32.reduceAdd, Int32.reduceSub, Int32.reduceOfInt, Int32.reduceToNatClampNeg, i10, i01, Nat.add_left_cancel_iff, Nat.left_eq_add, Nat.add_eq_left, cdX11_cuts, F1, m3.o, j33]
              change A z 213 n 0 0 (hset h3 52 (oM (upd c3 33 (few st r)))) 85 _ _ Q
              generalize hset h3 52 (oM (upd c3 33 (few st r))) = h4 at m4 n91 ⊢
              by_cases e2 : nI M.nr ≤ nI (r + 1)
              · refine go_ok okF1 (C := cdX11_cuts) (by rfl) [91] 60 (by exact Nat.le_of_ble_eq_true rfl) ?_
                simp (maxSteps := 2000000) only [go, stp, inS, ↓reduceIte, Bool.false_eq_true, Nat.reduceLT, Nat.reduceEqDiff, Nat.reduceAdd, ldI, ldL, ldA, st1, st2, okS, List.getElem?_cons_zero, List.getElem?_cons_succ, List.length_cons, List.length_nil, List.set_cons_zero, List.set_cons_succ, callP, callF, popN, ct, Value.category, cI, List.getD_cons_zero, List.getD_cons_succ, and_self, and_true, true_and, Nat.zero_le, Nat.reduceLeDiff, Nat.add_zero, Nat.zero_add, List.nil_append, List.cons_append, Option.toList_some, Option.toList_none, List.append_nil, hset_ss, true_or, or_true, eq_self, beq_self_eq_true, List.drop_succ_cons, List.drop_zero, swT, swL, hset_ap, not_true_eq_false, not_false_eq_true, true_implies, false_implies, implies_true, Int32.reduceLE, Int32.reduceLT, Int32.reduceAdd, Int32.reduceSub, Int32.reduceOfInt, Int32.reduceToNatClampNeg, i10, i01, Nat.add_left_cancel_iff, Nat.left_eq_add, Nat.add_eq_left, cdX11_cuts, F1, m4.o, (show upd c3 33 (few st r) 5 = nI M.nr from r4.1.nr), nI_1, eq_true e2]
                exact n91 _ _
              · refine go_ok okF1 (C := cdX11_cuts) (by rfl) [91] 60 (by exact Nat.le_of_ble_eq_true rfl) ?_
                simp (maxSteps := 2000000) only [go, stp, inS, ↓reduceIte, Bool.false_eq_true, Nat.reduceLT, Nat.reduceEqDiff, Nat.reduceAdd, ldI, ldL, ldA, st1, st2, okS, List.getElem?_cons_zero, List.getElem?_cons_succ, List.length_cons, List.length_nil, List.set_cons_zero, List.set_cons_succ, callP, callF, popN, ct, Value.category, cI, List.getD_cons_zero, List.getD_cons_succ, and_self, and_true, true_and, Nat.zero_le, Nat.reduceLeDiff, Nat.add_zero, Nat.zero_add, List.nil_append, List.cons_append, Option.toList_some, Option.toList_none, List.append_nil, hset_ss, true_or, or_true, eq_self, beq_self_eq_true, List.drop_succ_cons, List.drop_zero, swT, swL, hset_ap, not_true_eq_false, not_false_eq_true, true_implies, false_implies, implies_true, Int32.reduceLE, Int32.reduceLT, Int32.reduceAdd, Int32.reduceSub, Int32.reduceOfInt, Int32.reduceToNatClampNeg, i10, i01, Nat.add_left_cancel_iff, Nat.left_eq_add, Nat.add_eq_left, cdX11_cuts, F1, m4.o, (show upd c3 33 (few st r) 5 = nI M.nr from r4.1.nr), nI_1, e2]
                exact n91 _ _
            · rw [if_neg hq2]
              refine go_ok okF1 (C := cdX11_cuts) (by rfl) [85] 60 (by exact Nat.le_of_ble_eq_true rfl) ?_
              simp (maxSteps := 2000000) only [go, stp, inS, ↓reduceIte, Bool.false_eq_true, Nat.reduceLT, Nat.reduceEqDiff, Nat.reduceAdd, ldI, ldL, ldA, st1, st2, okS, List.getElem?_cons_zero, List.getElem?_cons_succ, List.length_cons, List.length_nil, List.set_cons_zero, List.set_cons_succ, callP, callF, popN, ct, Value.category, cI, List.getD_cons_zero, List.getD_cons_succ, and_self, and_true, true_and, Nat.zero_le, Nat.reduceLeDiff, Nat.add_zero, Nat.zero_add, List.nil_append, List.cons_append, Option.toList_some, Option.toList_none, List.append_nil, hset_ss, true_or, or_true, eq_self, beq_self_eq_true, List.drop_succ_cons, List.drop_zero, swT, swL, hset_ap, not_true_eq_false, not_false_eq_true, true_implies, false_implies, implies_true, Int32.reduceLE, Int32.reduceLT, Int32.reduceAdd, Int32.reduceSub, Int32.reduceOfInt, Int32.reduceToNatClampNeg, i10, i01, Nat.add_left_cancel_iff, Nat.left_eq_add, Nat.add_eq_left, cdX11_cuts, F1]
              exact stay (by rw [show bkC M s law rt (few st r) = false from Bool.eq_false_iff.mpr hq2, Bool.and_false]) h3 c3 a3 _ m3 r3 j33 j34 (o2.tr o3)
          · refine go_ok okF1 (C := cdX11_cuts) (by rfl) [85] 60 (by exact Nat.le_of_ble_eq_true rfl) ?_
            simp (maxSteps := 2000000) only [go, stp, inS, ↓reduceIte, Bool.false_eq_true, Nat.reduceLT, Nat.reduceEqDiff, Nat.reduceAdd, ldI, ldL, ldA, st1, st2, okS, List.getElem?_cons_zero, List.getElem?_cons_succ, List.length_cons, List.length_nil, List.set_cons_zero, List.set_cons_succ, callP, callF, popN, ct, Value.category, cI, List.getD_cons_zero, List.getD_cons_succ, and_self, and_true, true_and, Nat.zero_le, Nat.reduceLeDiff, Nat.add_zero, Nat.zero_add, List.nil_append, List.cons_append, Option.toList_some, Option.toList_none, List.append_nil, hset_ss, true_or, or_true, eq_self, beq_self_eq_true, List.drop_succ_cons, List.drop_zero, swT, swL, hset_ap, not_true_eq_false, not_false_eq_true, true_implies, false_implies, implies_true, Int32.reduceLE, Int32.reduceLT, Int32.reduceAdd, Int32.reduceSub, Int32.reduceOfInt, Int32.reduceToNatClampNeg, i10, i01, Nat.add_left_cancel_iff, Nat.left_eq_add, Nat.add_eq_left, cdX11_cuts, F1, m2.o, r2.1.nr, e, k33, b_ask _ (show r < 32 by omega), hb]
            exact stay (by rw [few_eq (by omega), Bool.eq_false_iff.mpr hb]; rfl) h2 c2 a2 _ m2 r2 k33 k34 o2
      refine go_ok okF1 (C := cdX11_cuts) (by rfl) [23] 60 (by exact Nat.le_of_ble_eq_true rfl) ?_
      simp (maxSteps := 2000000) only [go, stp, inS, ↓reduceIte, Bool.false_eq_true, Nat.reduceLT, Nat.reduceEqDiff, Nat.reduceAdd, ldI, ldL, ldA, st1, st2, okS, List.getElem?_cons_zero, List.getElem?_cons_succ, List.length_cons, List.length_nil, List.set_cons_zero, List.set_cons_succ, callP, callF, popN, ct, Value.category, cI, List.getD_cons_zero, List.getD_cons_succ, and_self, and_true, true_and, Nat.zero_le, Nat.reduceLeDiff, Nat.add_zero, Nat.zero_add, List.nil_append, List.cons_append, Option.toList_some, Option.toList_none, List.append_nil, hset_ss, true_or, or_true, eq_self, beq_self_eq_true, List.drop_succ_cons, List.drop_zero, swT, swL, hset_ap, not_true_eq_false, not_false_eq_true, true_implies, false_implies, implies_true, Int32.reduceLE, Int32.reduceLT, Int32.reduceAdd, Int32.reduceSub, Int32.reduceOfInt, Int32.reduceToNatClampNeg, i10, i01, Nat.add_left_cancel_iff, Nat.left_eq_add, Nat.add_eq_left, cdX11_cuts, F1]
      exact rows M.nr 0 h' c' a' l' _ (by omega) (fun j hj => absurd hj (by omega)) m' r' h33 h34 hO
  exact main 47 (alm M.nr) 0 _ (upd (upd c 33 (alm M.nr)) 34 0) a _ _ _ (by rw [pcN_all (by omega) (Nat.le_refl _)]; omega) hk.1 (fun i hi => by
    rcases Nat.lt_or_ge i 32 with h32 | h32
    · rw [b_alm (by omega) h32]; simp; omega
    · exact b_big h32) ((m.sc (upd (upd c 33 (alm M.nr)) 34 0)).kl (upd (upd c 33 (alm M.nr)) 34 0)) ((rd.st (alm M.nr)).rt 0) rfl rfl (sOff.rf.set (by omega) (by omega)) rfl
end MU2
