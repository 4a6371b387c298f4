
/-! the model: laws -/
def qs (M : MS) (s : pT) (q : Nat) (g : Nat → Int32) (c : Nat → Int32) (a : Nat → Nat → Int32) (l : Nat → Nat → Int64) : Prop := rdy M s c a l ∧ c 7 = nI q ∧ a 8 = g
section MR2
variable {n : Nat} {h : aH} {Q : aQ} {M : MS} {c : Nat → Int32} {a : Nat → Nat → Int32} {l : Nat → Nat → Int64} {g : Nat → Int32} {q o : Nat} {s : pT}
noncomputable def wbM (M : MS) (s : pT) (g : Nat → Int32) (q o how : Nat) : Int32 := anM (bt (M.ru &&& M.fa)) g q (fun r => evL how (bt (M.ru &&& M.fa)) (cmB (sG s o)) (evS s g (bt (M.ru &&& M.fa)) r o)) (alm q)
theorem wb_8 (h8 : q ≤ 8) (how : Nat) : ∀ i, 8 ≤ i → bt (wbM M s g q o how) i = false := an_8 h8
set_option maxRecDepth 100000 in
set_option maxHeartbeats 400000 in
theorem D_whichBy {how : Nat} (m : MH h c a l) (k : qs M s q g c a l) (h8 : q ≤ 8) (hk : sOk s) (ho : o < s.1) (hh : how ≤ 6) (hq : ∀ h' c' a', MH h' c' a' l → qs M s q g c' a' l → (∃ G L R N, ld c' a' G L R N ∧ 0 < N ∧ ∀ d f r, ev d G N L R f r 0 = evL how d (cmB (sG s o)) (evS s f d r o)) → sOff h h' 52 80 → Q (some (.int (wbM M s g q o how))) n h') : Ok 196 [.ref 52, .int (nI how), .int (nI o)] n h Q := by
  obtain ⟨rd, h7, hg⟩ := k
  refine ok_of kMX11_whichBy kCX11_whichBy (Nat.le_of_ble_eq_true rfl) (fun z => ?_)
  change A z _ _ 0 0 _ 0 [some (.ref 52), some (.int (nI how)), some (.int (nI o))] [] _
  refine go_ok okF1 (C := cdX11_whichBy) (by rfl) [] 20 (by exact Nat.le_of_ble_eq_true rfl) ?_
  simp (maxSteps := 2000000) only [go, stp, inS, ↓reduceIte, Bool.false_eq_true, Nat.reduceLT, Nat.reduceEqDiff, Nat.reduceAdd, ldI, ldL, ldA, st1, st2, okS, List.getElem?_cons_zero, List.getElem?_cons_succ, List.length_cons, List.length_nil, List.set_cons_zero, List.set_cons_succ, callP, callF, popN, ct, Value.category, cI, List.getD_cons_zero, List.getD_cons_succ, and_self, and_true, true_and, Nat.zero_le, Nat.reduceLeDiff, Nat.add_zero, Nat.zero_add, List.nil_append, List.cons_append, Option.toList_some, Option.toList_none, List.append_nil, hset_ss, true_or, or_true, eq_self, beq_self_eq_true, List.drop_succ_cons, List.drop_zero, swT, swL, hset_ap, not_true_eq_false, not_false_eq_true, true_implies, false_implies, implies_true, Int32.reduceLE, Int32.reduceLT, Int32.reduceAdd, Int32.reduceSub, Int32.reduceOfInt, Int32.reduceToNatClampNeg, i10, i01, Nat.add_left_cancel_iff, Nat.left_eq_add, Nat.add_eq_left, cdX11_whichBy, F1, m.o]
  refine D_lays m rd.2.1 hk ho hh (fun h1 a1 G L R N m1 hl hf he hN _ o1 => ?_)
  have r1 := (rd.sc 21 (nI N) (by omega)).sa a1 (fun i i1 i2 i3 i4 => hf i (by omega))
  have g1 : a1 8 = g := by rw [hf 8 (by omega)]; exact hg
  refine go_ok okF1 (C := cdX11_whichBy) (by rfl) [] 20 (by exact Nat.le_of_ble_eq_true rfl) ?_
  simp (maxSteps := 2000000) only [go, stp, inS, ↓reduceIte, Bool.false_eq_true, Nat.reduceLT, Nat.reduceEqDiff, Nat.reduceAdd, ldI, ldL, ldA, st1, st2, okS, List.getElem?_cons_zero, List.getElem?_cons_succ, List.length_cons, List.length_nil, List.set_cons_zero, List.set_cons_succ, callP, callF, popN, ct, Value.category, cI, List.getD_cons_zero, List.getD_cons_succ, and_self, and_true, true_and, Nat.zero_le, Nat.reduceLeDiff, Nat.add_zero, Nat.zero_add, List.nil_append, List.cons_append, Option.toList_some, Option.toList_none, List.append_nil, hset_ss, true_or, or_true, eq_self, beq_self_eq_true, List.drop_succ_cons, List.drop_zero, swT, swL, hset_ap, not_true_eq_false, not_false_eq_true, true_implies, false_implies, implies_true, Int32.reduceLE, Int32.reduceLT, Int32.reduceAdd, Int32.reduceSub, Int32.reduceOfInt, Int32.reduceToNatClampNeg, i10, i01, Nat.add_left_cancel_iff, Nat.left_eq_add, Nat.add_eq_left, cdX11_whichBy, F1, m1.o]
  refine D_whichNow m1 hl hN h7 h8 (fun h2 v g2 m2 hv o2 => ?_)
  refine go_ok okF1 (C := cdX11_whichBy) (by rfl) [] 20 (by exact Nat.le_of_ble_eq_true rfl) ?_
  simp (maxSteps := 2000000) only [go, stp, inS, ↓reduceIte, Bool.false_eq_true, Nat.reduceLT, Nat.reduceEqDiff, Nat.reduceAdd, ldI, ldL, ldA, st1, st2, okS, List.getElem?_cons_zero, List.getElem?_cons_succ, List.length_cons, List.length_nil, List.set_cons_zero, List.set_cons_succ, callP, callF, popN, ct, Value.category, cI, List.getD_cons_zero, List.getD_cons_succ, and_self, and_true, true_and, Nat.zero_le, Nat.reduceLeDiff, Nat.add_zero, Nat.zero_add, List.nil_append, List.cons_append, Option.toList_some, Option.toList_none, List.append_nil, hset_ss, true_or, or_true, eq_self, beq_self_eq_true, List.drop_succ_cons, List.drop_zero, swT, swL, hset_ap, not_true_eq_false, not_false_eq_true, true_implies, false_implies, implies_true, Int32.reduceLE, Int32.reduceLT, Int32.reduceAdd, Int32.reduceSub, Int32.reduceOfInt, Int32.reduceToNatClampNeg, i10, i01, Nat.add_left_cancel_iff, Nat.left_eq_add, Nat.add_eq_left, cdX11_whichBy, F1]
  have e : anM (bt (upd c 21 (nI N) 28 &&& upd c 21 (nI N) 29)) (a1 8) q (fun r => ev (bt (upd c 21 (nI N) 28 &&& upd c 21 (nI N) 29)) G N L R (a1 8) r 0) (alm q) = wbM M s g q o how := by
    unfold wbM
    rw [g1, show upd c 21 (nI N) 28 = M.ru from rd.1.ru, show upd c 21 (nI N) 29 = M.fa from rd.1.fa]
    congr 1
    funext r
    exact he _ _ _
  rw [e]
  exact hq h2 _ _ m2 ⟨(r1.sc 30 v (by omega)).sa _ (fun i i1 i2 i3 i4 => fset_n _ _ (by omega)), h7, g1⟩ ⟨G, L, R, N, hl, hN, he⟩ (o1.tr o2)
theorem alm_z (h8 : q ≤ 12) : alm q = 0 ↔ q = 0 := by
  constructor
  · intro e
    rcases Nat.eq_zero_or_pos q with h0 | h0
    · exact h0
    · have := b_alm (nr := q) (i := 0) (by omega) (by omega)
      rw [e, b_0] at this; simp [h0] at this
  · intro e; subst e; decide
theorem bc_alm (h8 : q ≤ 8) : bcE (alm q) = nI q := by
  have e8 : ∀ i, q ≤ i → bt (alm q) i = false := fun i hi => by
    rcases Nat.lt_or_ge i 32 with h32 | h32
    · rw [b_alm (by omega) h32]; simp; omega
    · exact b_big h32
  rw [bc_8 (fun i hi => e8 i (by omega)), show (8 : Nat) = q + (8 - q) by omega, pcN_more (fun i hi => e8 i hi), pcN_all (by omega) (Nat.le_refl _)]
theorem an_0 {d : Nat → Bool} {V : Nat → Nat} {x : Int32} : anM d g 0 V x = 0 := rfl
noncomputable def lwQ (M : MS) (s : pT) (g : Nat → Int32) (q o law : Nat) : Bool := lwR law (bt (M.ru &&& M.fa)) g q (fun r => evS s g (bt (M.ru &&& M.fa)) r o) (alm q) (cmB (sG s o))
theorem lq_0 (h8 : q ≤ 8) : lwQ M s g q o 0 = !(bcE (wbM M s g q o 0) + bcE (wbM M s g q o 1) + bcE (wbM M s g q o 2) == nI q) := by
  unfold lwQ wbM
  rcases Nat.eq_zero_or_pos q with h0 | h0
  · subst h0; rw [(alm_z (by omega)).mpr rfl, lwR_z, an_0, an_0, an_0]; decide
  · rw [lwR_0 (fun e => by rw [alm_z (by omega)] at e; omega), bc_alm h8]; rfl
theorem lq_34 {law : Nat} (h8 : q ≤ 8) (hl : law = 3 ∨ law = 4) : lwQ M s g q o law = !(wbM M s g q o law == wbM M s g q o 0) := by
  unfold lwQ wbM
  rcases Nat.eq_zero_or_pos q with h0 | h0
  · subst h0; rw [(alm_z (by omega)).mpr rfl, lwR_z]; rw [an_0, an_0]; decide
  · have hz : ¬ alm q = 0 := fun e => by rw [alm_z (by omega)] at e; omega
    rcases hl with rfl | rfl
    · rw [lwR_3 hz]; rfl
    · rw [lwR_4 hz]; rfl
theorem toF_m1 {k : Nat} : ∀ {m : Nat}, m ≤ q → q ≤ 8 → toF g (-1) k m = toF g (alm q) k m
  | 0, _, _ => rfl
  | m + 1, h, h8 => by rw [toF, toF, toF_m1 (by omega) h8, b_m1 m (by omega), b_alm (by omega) (by omega)]; simp [show m < q by omega]
theorem lq_5 (h8 : q ≤ 8) : lwQ M s g q o 5 = !(all3 (fun k => toF g (wbM M s g q o 0) k q + toF g (wbM M s g q o 1) k q + toF g (wbM M s g q o 2) k q == toF g (-1) k q)) := by
  unfold lwQ wbM
  rcases Nat.eq_zero_or_pos q with h0 | h0
  · subst h0; rw [(alm_z (by omega)).mpr rfl, lwR_z]; simp [all3, toF]
  · rw [lwR_5 (fun e => by rw [alm_z (by omega)] at e; omega)]
    congr 1
    exact all3_ext (fun k hk => by rw [toF_m1 (Nat.le_refl _) h8]; rfl)
theorem lq_6 (h8 : q ≤ 8) (hv : ∀ i, i < q * 3 → okV (g i)) : lwQ M s g q o 6 = !(all3 (fun k => decide (kiN g (wbM M s g q o 0) k q ≤ kiN g (wbM M s g q o 5) k q) && decide (kiN g (wbM M s g q o 6) k q ≤ kiN g (wbM M s g q o 0) k q))) := by
  have kl : ∀ x k, kiN g x k q < 2147483648 := fun x k => by
    have : ∀ m, kiN g x k m ≤ m := fun m => by
      induction m with
      | zero => exact Nat.le_refl _
      | succ m ih => rw [kiN]; have := b2n_le (bt x m && !anyB m (fun o => bt x o && g (o * 3 + k) == g (m * 3 + k))); omega
    have := this q; omega
  unfold lwQ wbM
  rcases Nat.eq_zero_or_pos q with h0 | h0
  · subst h0; rw [(alm_z (by omega)).mpr rfl, lwR_z]; simp [all3, kiN]
  · rw [lwR_6 (fun e => by rw [alm_z (by omega)] at e; omega)]
    congr 1
    refine all3_ext (fun k hk => ?_)
    have hv' : ∀ r, r < q → okV (g (r * 3 + k)) := fun r hr => hv _ (by omega)
    rw [ku_ki hv', ku_ki hv', ku_ki hv']
    simp only [i_le (kl _ _) (kl _ _)]
    rfl
theorem D_onesB {x : Int32} (h8 : ∀ i, 8 ≤ i → bt x i = false) (hq : Q (some (.int (bcE x))) n h) : Ok 193 [.int x] n h Q := by
  rw [bc_8 h8] at hq
  obtain ⟨b, hb, rfl⟩ := b_small (m := 8) (by omega) h8
  exact D_ones hb hq
set_option maxRecDepth 100000 in
set_option maxHeartbeats 400000 in
theorem now_0 (m : MH h c a l) (k : qs M s q g c a l) (h8 : q ≤ 8) (hk : sOk s) (ho : o < s.1) (hq : ∀ h' c' a', MH h' c' a' l → qs M s q g c' a' l → sOff h h' 52 80 → Q (some (.int (if lwQ M s g q o 0 = true then 1 else 0))) n h') : Ok 207 [.ref 52, .int (nI 0), .int (nI o)] n h Q := by
  rw [lq_0 h8] at hq
  refine ok_of kMX11_quarrelsNow kCX11_quarrelsNow (Nat.le_of_ble_eq_true rfl) (fun z => ?_)
  change A z _ _ 0 0 _ 0 [some (.ref 52), some (.int (nI 0)), some (.int (nI o)), none, none, none, none, none] [] _
  refine go_ok okF1 (C := cdX11_quarrelsNow) (by rfl) [] 40 (by exact Nat.le_of_ble_eq_true rfl) ?_
  simp (maxSteps := 2000000) only [go, stp, inS, ↓reduceIte, Bool.false_eq_true, Nat.reduceLT, Nat.reduceEqDiff, Nat.reduceAdd, ldI, ldL, ldA, st1, st2, okS, List.getElem?_cons_zero, List.getElem?_cons_succ, List.length_cons, List.length_nil, List.set_cons_zero, List.set_cons_succ, callP, callF, popN, ct, Value.category, cI, List.getD_cons_zero, List.getD_cons_succ, and_self, and_true, true_and, Nat.zero_le, Nat.reduceLeDiff, Nat.add_zero, Nat.zero_add, List.nil_append, List.cons_append, Option.toList_some, Option.toList_none, List.append_nil, hset_ss, true_or, or_true, eq_self, beq_self_eq_true, List.drop_succ_cons, List.drop_zero, swT, swL, hset_ap, not_true_eq_false, not_false_eq_true, true_implies, false_implies, implies_true, Int32.reduceLE, Int32.reduceLT, Int32.reduceAdd, Int32.reduceSub, Int32.reduceOfInt, Int32.reduceToNatClampNeg, i10, i01, Nat.add_left_cancel_iff, Nat.left_eq_add, Nat.add_eq_left, cdX11_quarrelsNow, F1, m.o]
  refine D_whichBy (how := 0) m k h8 hk ho (by omega) (fun h1 c1 a1 m1 k1 _ o1 => ?_)
  refine go_ok okF1 (C := cdX11_quarrelsNow) (by rfl) [] 40 (by exact Nat.le_of_ble_eq_true rfl) ?_
  simp (maxSteps := 2000000) only [go, stp, inS, ↓reduceIte, Bool.false_eq_true, Nat.reduceLT, Nat.reduceEqDiff, Nat.reduceAdd, ldI, ldL, ldA, st1, st2, okS, List.getElem?_cons_zero, List.getElem?_cons_succ, List.length_cons, List.length_nil, List.set_cons_zero, List.set_cons_succ, callP, callF, popN, ct, Value.category, cI, List.getD_cons_zero, List.getD_cons_succ, and_self, and_true, true_and, Nat.zero_le, Nat.reduceLeDiff, Nat.add_zero, Nat.zero_add, List.nil_append, List.cons_append, Option.toList_some, Option.toList_none, List.append_nil, hset_ss, true_or, or_true, eq_self, beq_self_eq_true, List.drop_succ_cons, List.drop_zero, swT, swL, hset_ap, not_true_eq_false, not_false_eq_true, true_implies, false_implies, implies_true, Int32.reduceLE, Int32.reduceLT, Int32.reduceAdd, Int32.reduceSub, Int32.reduceOfInt, Int32.reduceToNatClampNeg, i10, i01, Nat.add_left_cancel_iff, Nat.left_eq_add, Nat.add_eq_left, cdX11_quarrelsNow, F1, (show nI 0 = 0 from rfl)]
  refine D_onesB (wb_8 h8 _) ?_
  refine go_ok okF1 (C := cdX11_quarrelsNow) (by rfl) [] 40 (by exact Nat.le_of_ble_eq_true rfl) ?_
  simp (maxSteps := 2000000) only [go, stp, inS, ↓reduceIte, Bool.false_eq_true, Nat.reduceLT, Nat.reduceEqDiff, Nat.reduceAdd, ldI, ldL, ldA, st1, st2, okS, List.getElem?_cons_zero, List.getElem?_cons_succ, List.length_cons, List.length_nil, List.set_cons_zero, List.set_cons_succ, callP, callF, popN, ct, Value.category, cI, List.getD_cons_zero, List.getD_cons_succ, and_self, and_true, true_and, Nat.zero_le, Nat.reduceLeDiff, Nat.add_zero, Nat.zero_add, List.nil_append, List.cons_append, Option.toList_some, Option.toList_none, List.append_nil, hset_ss, true_or, or_true, eq_self, beq_self_eq_true, List.drop_succ_cons, List.drop_zero, swT, swL, hset_ap, not_true_eq_false, not_false_eq_true, true_implies, false_implies, implies_true, Int32.reduceLE, Int32.reduceLT, Int32.reduceAdd, Int32.reduceSub, Int32.reduceOfInt, Int32.reduceToNatClampNeg, i10, i01, Nat.add_left_cancel_iff, Nat.left_eq_add, Nat.add_eq_left, cdX11_quarrelsNow, F1, m1.o]
  refine D_whichBy (how := 1) m1 k1 h8 hk ho (by omega) (fun h2 c2 a2 m2 k2 _ o2 => ?_)
  refine go_ok okF1 (C := cdX11_quarrelsNow) (by rfl) [] 40 (by exact Nat.le_of_ble_eq_true rfl) ?_
  simp (maxSteps := 2000000) only [go, stp, inS, ↓reduceIte, Bool.false_eq_true, Nat.reduceLT, Nat.reduceEqDiff, Nat.reduceAdd, ldI, ldL, ldA, st1, st2, okS, List.getElem?_cons_zero, List.getElem?_cons_succ, List.length_cons, List.length_nil, List.set_cons_zero, List.set_cons_succ, callP, callF, popN, ct, Value.category, cI, List.getD_cons_zero, List.getD_cons_succ, and_self, and_true, true_and, Nat.zero_le, Nat.reduceLeDiff, Nat.add_zero, Nat.zero_add, List.nil_append, List.cons_append, Option.toList_some, Option.toList_none, List.append_nil, hset_ss, true_or, or_true, eq_self, beq_self_eq_true, List.drop_succ_cons, List.drop_zero, swT, swL, hset_ap, not_true_eq_false, not_false_eq_true, true_implies, false_implies, implies_true, Int32.reduceLE, Int32.reduceLT, Int32.reduceAdd, Int32.reduceSub, Int32.reduceOfInt, Int32.reduceToNatClampNeg, i10, i01, Nat.add_left_cancel_iff, Nat.left_eq_add, Nat.add_eq_left, cdX11_quarrelsNow, F1]
  refine D_onesB (wb_8 h8 _) ?_
  refine go_ok okF1 (C := cdX11_quarrelsNow) (by rfl) [] 40 (by exact Nat.le_of_ble_eq_true rfl) ?_
  simp (maxSteps := 2000000) only [go, stp, inS, ↓reduceIte, Bool.false_eq_true, Nat.reduceLT, Nat.reduceEqDiff, Nat.reduceAdd, ldI, ldL, ldA, st1, st2, okS, List.getElem?_cons_zero, List.getElem?_cons_succ, List.length_cons, List.length_nil, List.set_cons_zero, List.set_cons_succ, callP, callF, popN, ct, Value.category, cI, List.getD_cons_zero, List.getD_cons_succ, and_self, and_true, true_and, Nat.zero_le, Nat.reduceLeDiff, Nat.add_zero, Nat.zero_add, List.nil_append, List.cons_append, Option.toList_some, Option.toList_none, List.append_nil, hset_ss, true_or, or_true, eq_self, beq_self_eq_true, List.drop_succ_cons, List.drop_zero, swT, swL, hset_ap, not_true_eq_false, not_false_eq_true, true_implies, false_implies, implies_true, Int32.reduceLE, Int32.reduceLT, Int32.reduceAdd, Int32.reduceSub, Int32.reduceOfInt, Int32.reduceToNatClampNeg, i10, i01, Nat.add_left_cancel_iff, Nat.left_eq_add, Nat.add_eq_left, cdX11_quarrelsNow, F1, m2.o]
  refine D_whichBy (how := 2) m2 k2 h8 hk ho (by omega) (fun h3 c3 a3 m3 k3 _ o3 => ?_)
  refine go_ok okF1 (C := cdX11_quarrelsNow) (by rfl) [] 40 (by exact Nat.le_of_ble_eq_true rfl) ?_
  simp (maxSteps := 2000000) only [go, stp, inS, ↓reduceIte, Bool.false_eq_true, Nat.reduceLT, Nat.reduceEqDiff, Nat.reduceAdd, ldI, ldL, ldA, st1, st2, okS, List.getElem?_cons_zero, List.getElem?_cons_succ, List.length_cons, List.length_nil, List.set_cons_zero, List.set_cons_succ, callP, callF, popN, ct, Value.category, cI, List.getD_cons_zero, List.getD_cons_succ, and_self, and_true, true_and, Nat.zero_le, Nat.reduceLeDiff, Nat.add_zero, Nat.zero_add, List.nil_append, List.cons_append, Option.toList_some, Option.toList_none, List.append_nil, hset_ss, true_or, or_true, eq_self, beq_self_eq_true, List.drop_succ_cons, List.drop_zero, swT, swL, hset_ap, not_true_eq_false, not_false_eq_true, true_implies, false_implies, implies_true, Int32.reduceLE, Int32.reduceLT, Int32.reduceAdd, Int32.reduceSub, Int32.reduceOfInt, Int32.reduceToNatClampNeg, i10, i01, Nat.add_left_cancel_iff, Nat.left_eq_add, Nat.add_eq_left, cdX11_quarrelsNow, F1]
  refine D_onesB (wb_8 h8 _) ?_
  have fin := hq h3 c3 a3 m3 k3 ((o1.tr o2).tr o3)
  by_cases e : bcE (wbM M s g q o 0) + bcE (wbM M s g q o 1) + bcE (wbM M s g q o 2) = nI q
  · refine go_ok okF1 (C := cdX11_quarrelsNow) (by rfl) [] 40 (by exact Nat.le_of_ble_eq_true rfl) ?_
    simp (maxSteps := 2000000) only [go, stp, inS, ↓reduceIte, Bool.false_eq_true, Nat.reduceLT, Nat.reduceEqDiff, Nat.reduceAdd, ldI, ldL, ldA, st1, st2, okS, List.getElem?_cons_zero, List.getElem?_cons_succ, List.length_cons, List.length_nil, List.set_cons_zero, List.set_cons_succ, callP, callF, popN, ct, Value.category, cI, List.getD_cons_zero, List.getD_cons_succ, and_self, and_true, true_and, Nat.zero_le, Nat.reduceLeDiff, Nat.add_zero, Nat.zero_add, List.nil_append, List.cons_append, Option.toList_some, Option.toList_none, List.append_nil, hset_ss, true_or, or_true, eq_self, beq_self_eq_true, List.drop_succ_cons, List.drop_zero, swT, swL, hset_ap, not_true_eq_false, not_false_eq_true, true_implies, false_implies, implies_true, Int32.reduceLE, Int32.reduceLT, Int32.reduceAdd, Int32.reduceSub, Int32.reduceOfInt, Int32.reduceToNatClampNeg, i10, i01, Nat.add_left_cancel_iff, Nat.left_eq_add, Nat.add_eq_left, cdX11_quarrelsNow, F1, m3.o, k3.2.1, e]
    rw [e] at fin
    simpa using fin
  · refine go_ok okF1 (C := cdX11_quarrelsNow) (by rfl) [] 40 (by exact Nat.le_of_ble_eq_true rfl) ?_
    simp (maxSteps := 2000000) only [go, stp, inS, ↓reduceIte, Bool.false_eq_true, Nat.reduceLT, Nat.reduceEqDiff, Nat.reduceAdd, ldI, ldL, ldA, st1, st2, okS, List.getElem?_cons_zero, List.getElem?_cons_succ, List.length_cons, List.length_nil, List.set_cons_zero, List.set_cons_succ, callP, callF, popN, ct, Value.category, cI, List.getD_cons_zero, List.getD_cons_succ, and_self, and_true, true_and, Nat.zero_le, Nat.reduceLeDiff, Nat.add_zero, Nat.zero_add, List.nil_append, List.cons_append, Option.toList_some, Option.toList_none, List.append_nil, hset_ss, true_or, or_true, eq_self, beq_self_eq_true, List.drop_succ_cons, List.drop_zero, swT, swL, hset_ap, not_true_eq_false, not_false_eq_true, true_implies, false_implies, implies_true, Int32.reduceLE, Int32.reduceLT, Int32.reduceAdd, Int32.reduceSub, Int32.reduceOfInt, Int32.reduceToNatClampNeg, i10, i01, Nat.add_left_cancel_iff, Nat.left_eq_add, Nat.add_eq_left, cdX11_quarrelsNow, F1, m3.o, k3.2.1, e]
    simpa [e] using fin
set_option maxRecDepth 100000 in
set_option maxHeartbeats 400000 in
theorem now_34 {law : Nat} (hl : law = 3 ∨ law = 4) (m : MH h c a l) (k : qs M s q g c a l) (h8 : q ≤ 8) (hk : sOk s) (ho : o < s.1) (hq : ∀ h' c' a', MH h' c' a' l → qs M s q g c' a' l → sOff h h' 52 80 → Q (some (.int (if lwQ M s g q o law = true then 1 else 0))) n h') : Ok 207 [.ref 52, .int (nI law), .int (nI o)] n h Q := by
  rw [lq_34 h8 hl] at hq
  refine ok_of kMX11_quarrelsNow kCX11_quarrelsNow (Nat.le_of_ble_eq_true rfl) (fun z => ?_)
  change A z _ _ 0 0 _ 0 [some (.ref 52), some (.int (nI law)), some (.int (nI o)), none, none, none, none, none] [] _
  refine go_ok okF1 (C := cdX11_quarrelsNow) (by rfl) [] 40 (by exact Nat.le_of_ble_eq_true rfl) ?_
  simp (maxSteps := 2000000) only [go, stp, inS, ↓reduceIte, Bool.false_eq_true, Nat.reduceLT, Nat.reduceEqDiff, Nat.reduceAdd, ldI, ldL, ldA, st1, st2, okS, List.getElem?_cons_zero, List.getElem?_cons_succ, List.length_cons, List.length_nil, List.set_cons_zero, List.set_cons_succ, callP, callF, popN, ct, Value.category, cI, List.getD_cons_zero, List.getD_cons_succ, and_self, and_true, true_and, Nat.zero_le, Nat.reduceLeDiff, Nat.add_zero, Nat.zero_add, List.nil_append, List.cons_append, Option.toList_some, Option.toList_none, List.append_nil, hset_ss, true_or, or_true, eq_self, beq_self_eq_true, List.drop_succ_cons, List.drop_zero, swT, swL, hset_ap, not_true_eq_false, not_false_eq_true, true_implies, false_implies, implies_true, Int32.reduceLE, Int32.reduceLT, Int32.reduceAdd, Int32.reduceSub, Int32.reduceOfInt, Int32.reduceToNatClampNeg, i10, i01, Nat.add_left_cancel_iff, Nat.left_eq_add, Nat.add_eq_left, cdX11_quarrelsNow, F1, m.o]
  refine D_whichBy (how := 0) m k h8 hk ho (by omega) (fun h1 c1 a1 m1 k1 _ o1 => ?_)
  have l0 : ¬ nI law = 0 := nI_ne0 (by omega) (by omega)
  have go58 : A z 207 n 0 0 h1 58 [some (.ref 52), some (.int (nI law)), some (.int (nI o)), some (.int (wbM M s g q o 0)), none, none, none, none] [] Q := by
    refine go_ok okF1 (C := cdX11_quarrelsNow) (by rfl) [] 40 (by exact Nat.le_of_ble_eq_true rfl) ?_
    simp (maxSteps := 2000000) only [go, stp, inS, ↓reduceIte, Bool.false_eq_true, Nat.reduceLT, Nat.reduceEqDiff, Nat.reduceAdd, ldI, ldL, ldA, st1, st2, okS, List.getElem?_cons_zero, List.getElem?_cons_succ, List.length_cons, List.length_nil, List.set_cons_zero, List.set_cons_succ, callP, callF, popN, ct, Value.category, cI, List.getD_cons_zero, List.getD_cons_succ, and_self, and_true, true_and, Nat.zero_le, Nat.reduceLeDiff, Nat.add_zero, Nat.zero_add, List.nil_append, List.cons_append, Option.toList_some, Option.toList_none, List.append_nil, hset_ss, true_or, or_true, eq_self, beq_self_eq_true, List.drop_succ_cons, List.drop_zero, swT, swL, hset_ap, not_true_eq_false, not_false_eq_true, true_implies, false_implies, implies_true, Int32.reduceLE, Int32.reduceLT, Int32.reduceAdd, Int32.reduceSub, Int32.reduceOfInt, Int32.reduceToNatClampNeg, i10, i01, Nat.add_left_cancel_iff, Nat.left_eq_add, Nat.add_eq_left, cdX11_quarrelsNow, F1, m1.o]
    refine D_whichBy (how := law) m1 k1 h8 hk ho (by omega) (fun h2 c2 a2 m2 k2 _ o2 => ?_)
    have fin := hq h2 c2 a2 m2 k2 (o1.tr o2)
    by_cases e : wbM M s g q o law = wbM M s g q o 0
    · refine go_ok okF1 (C := cdX11_quarrelsNow) (by rfl) [] 40 (by exact Nat.le_of_ble_eq_true rfl) ?_
      simp (maxSteps := 2000000) only [go, stp, inS, ↓reduceIte, Bool.false_eq_true, Nat.reduceLT, Nat.reduceEqDiff, Nat.reduceAdd, ldI, ldL, ldA, st1, st2, okS, List.getElem?_cons_zero, List.getElem?_cons_succ, List.length_cons, List.length_nil, List.set_cons_zero, List.set_cons_succ, callP, callF, popN, ct, Value.category, cI, List.getD_cons_zero, List.getD_cons_succ, and_self, and_true, true_and, Nat.zero_le, Nat.reduceLeDiff, Nat.add_zero, Nat.zero_add, List.nil_append, List.cons_append, Option.toList_some, Option.toList_none, List.append_nil, hset_ss, true_or, or_true, eq_self, beq_self_eq_true, List.drop_succ_cons, List.drop_zero, swT, swL, hset_ap, not_true_eq_false, not_false_eq_true, true_implies, false_implies, implies_true, Int32.reduceLE, Int32.reduceLT, Int32.reduceAdd, Int32.reduceSub, Int32.reduceOfInt, Int32.reduceToNatClampNeg, i10, i01, Nat.add_left_cancel_iff, Nat.left_eq_add, Nat.add_eq_left, cdX11_quarrelsNow, F1, e]
      rw [e] at fin
      simpa using fin
    · refine go_ok okF1 (C := cdX11_quarrelsNow) (by rfl) [] 40 (by exact Nat.le_of_ble_eq_true rfl) ?_
      simp (maxSteps := 2000000) only [go, stp, inS, ↓reduceIte, Bool.false_eq_true, Nat.reduceLT, Nat.reduceEqDiff, Nat.reduceAdd, ldI, ldL, ldA, st1, st2, okS, List.getElem?_cons_zero, List.getElem?_cons_succ, List.length_cons, List.length_nil, List.set_cons_zero, List.set_cons_succ, callP, callF, popN, ct, Value.category, cI, List.getD_cons_zero, List.getD_cons_succ, and_self, and_true, true_and, Nat.zero_le, Nat.reduceLeDiff, Nat.add_zero, Nat.zero_add, List.nil_append, List.cons_append, Option.toList_some, Option.toList_none, List.append_nil, hset_ss, true_or, or_true, eq_self, beq_self_eq_true, List.drop_succ_cons, List.drop_zero, swT, swL, hset_ap, not_true_eq_false, not_false_eq_true, true_implies, false_implies, implies_true, Int32.reduceLE, Int32.reduceLT, Int32.reduceAdd, Int32.reduceSub, Int32.reduceOfInt, Int32.reduceToNatClampNeg, i10, i01, Nat.add_left_cancel_iff, Nat.left_eq_add, Nat.add_eq_left, cdX11_quarrelsNow, F1, e]
      simpa [e] using fin
  rcases hl with rfl | rfl
  · refine go_ok okF1 (C := cdX11_quarrelsNow) (by rfl) [58] 40 (by exact Nat.le_of_ble_eq_true rfl) ?_
    simp (maxSteps := 2000000) only [go, stp, inS, ↓reduceIte, Bool.false_eq_true, Nat.reduceLT, Nat.reduceEqDiff, Nat.reduceAdd, ldI, ldL, ldA, st1, st2, okS, List.getElem?_cons_zero, List.getElem?_cons_succ, List.length_cons, List.length_nil, List.set_cons_zero, List.set_cons_succ, callP, callF, popN, ct, Value.category, cI, List.getD_cons_zero, List.getD_cons_succ, and_self, and_true, true_and, Nat.zero_le, Nat.reduceLeDiff, Nat.add_zero, Nat.zero_add, List.nil_append, List.cons_append, Option.toList_some, Option.toList_none, List.append_nil, hset_ss, true_or, or_true, eq_self, beq_self_eq_true, List.drop_succ_cons, List.drop_zero, swT, swL, hset_ap, not_true_eq_false, not_false_eq_true, true_implies, false_implies, implies_true, Int32.reduceLE, Int32.reduceLT, Int32.reduceAdd, Int32.reduceSub, Int32.reduceOfInt, Int32.reduceToNatClampNeg, i10, i01, Nat.add_left_cancel_iff, Nat.left_eq_add, Nat.add_eq_left, cdX11_quarrelsNow, F1, (show nI 3 = 3 from rfl), (show ¬ (3 : Int32) = 0 by decide)]
    exact go58
  · refine go_ok okF1 (C := cdX11_quarrelsNow) (by rfl) [58] 40 (by exact Nat.le_of_ble_eq_true rfl) ?_
    simp (maxSteps := 2000000) only [go, stp, inS, ↓reduceIte, Bool.false_eq_true, Nat.reduceLT, Nat.reduceEqDiff, Nat.reduceAdd, ldI, ldL, ldA, st1, st2, okS, List.getElem?_cons_zero, List.getElem?_cons_succ, List.length_cons, List.length_nil, List.set_cons_zero, List.set_cons_succ, callP, callF, popN, ct, Value.category, cI, List.getD_cons_zero, List.getD_cons_succ, and_self, and_true, true_and, Nat.zero_le, Nat.reduceLeDiff, Nat.add_zero, Nat.zero_add, List.nil_append, List.cons_append, Option.toList_some, Option.toList_none, List.append_nil, hset_ss, true_or, or_true, eq_self, beq_self_eq_true, List.drop_succ_cons, List.drop_zero, swT, swL, hset_ap, not_true_eq_false, not_false_eq_true, true_implies, false_implies, implies_true, Int32.reduceLE, Int32.reduceLT, Int32.reduceAdd, Int32.reduceSub, Int32.reduceOfInt, Int32.reduceToNatClampNeg, i10, i01, Nat.add_left_cancel_iff, Nat.left_eq_add, Nat.add_eq_left, cdX11_quarrelsNow, F1, (show nI 4 = 4 from rfl), (show ¬ (4 : Int32) = 0 by decide), (show ¬ (4 : Int32) = 3 by decide)]
    exact go58
set_option maxRecDepth 100000 in
set_option maxHeartbeats 400000 in
theorem now_5 (m : MH h c a l) (k : qs M s q g c a l) (h8 : q ≤ 8) (hk : sOk s) (ho : o < s.1) (hv : ∀ i, i < q * 3 → okV (g i)) (hq : ∀ h' c' a', MH h' c' a' l → qs M s q g c' a' l → sOff h h' 52 80 → Q (some (.int (if lwQ M s g q o 5 = true then 1 else 0))) n h') : Ok 207 [.ref 52, .int (nI 5), .int (nI o)] n h Q := by
  rw [lq_5 h8] at hq
  refine ok_of kMX11_quarrelsNow kCX11_quarrelsNow (Nat.le_of_ble_eq_true rfl) (fun z => ?_)
  change A z _ _ 0 0 _ 0 [some (.ref 52), some (.int (nI 5)), some (.int (nI o)), none, none, none, none, none] [] _
  refine go_ok okF1 (C := cdX11_quarrelsNow) (by rfl) [] 40 (by exact Nat.le_of_ble_eq_true rfl) ?_
  simp (maxSteps := 2000000) only [go, stp, inS, ↓reduceIte, Bool.false_eq_true, Nat.reduceLT, Nat.reduceEqDiff, Nat.reduceAdd, ldI, ldL, ldA, st1, st2, okS, List.getElem?_cons_zero, List.getElem?_cons_succ, List.length_cons, List.length_nil, List.set_cons_zero, List.set_cons_succ, callP, callF, popN, ct, Value.category, cI, List.getD_cons_zero, List.getD_cons_succ, and_self, and_true, true_and, Nat.zero_le, Nat.reduceLeDiff, Nat.add_zero, Nat.zero_add, List.nil_append, List.cons_append, Option.toList_some, Option.toList_none, List.append_nil, hset_ss, true_or, or_true, eq_self, beq_self_eq_true, List.drop_succ_cons, List.drop_zero, swT, swL, hset_ap, not_true_eq_false, not_false_eq_true, true_implies, false_implies, implies_true, Int32.reduceLE, Int32.reduceLT, Int32.reduceAdd, Int32.reduceSub, Int32.reduceOfInt, Int32.reduceToNatClampNeg, i10, i01, Nat.add_left_cancel_iff, Nat.left_eq_add, Nat.add_eq_left, cdX11_quarrelsNow, F1, m.o]
  refine D_whichBy (how := 0) m k h8 hk ho (by omega) (fun h1 c1 a1 m1 k1 _ o1 => ?_)
  refine go_ok okF1 (C := cdX11_quarrelsNow) (by rfl) [] 40 (by exact Nat.le_of_ble_eq_true rfl) ?_
  simp (maxSteps := 2000000) only [go, stp, inS, ↓reduceIte, Bool.false_eq_true, Nat.reduceLT, Nat.reduceEqDiff, Nat.reduceAdd, ldI, ldL, ldA, st1, st2, okS, List.getElem?_cons_zero, List.getElem?_cons_succ, List.length_cons, List.length_nil, List.set_cons_zero, List.set_cons_succ, callP, callF, popN, ct, Value.category, cI, List.getD_cons_zero, List.getD_cons_succ, and_self, and_true, true_and, Nat.zero_le, Nat.reduceLeDiff, Nat.add_zero, Nat.zero_add, List.nil_append, List.cons_append, Option.toList_some, Option.toList_none, List.append_nil, hset_ss, true_or, or_true, eq_self, beq_self_eq_true, List.drop_succ_cons, List.drop_zero, swT, swL, hset_ap, not_true_eq_false, not_false_eq_true, true_implies, false_implies, implies_true, Int32.reduceLE, Int32.reduceLT, Int32.reduceAdd, Int32.reduceSub, Int32.reduceOfInt, Int32.reduceToNatClampNeg, i10, i01, Nat.add_left_cancel_iff, Nat.left_eq_add, Nat.add_eq_left, cdX11_quarrelsNow, F1, m1.o, (show nI 5 = 5 from rfl), (show ¬ (5 : Int32) = 0 by decide), (show ¬ (5 : Int32) = 3 by decide), (show ¬ (5 : Int32) = 4 by decide)]
  refine D_whichBy (how := 1) m1 k1 h8 hk ho (by omega) (fun h2 c2 a2 m2 k2 _ o2 => ?_)
  refine go_ok okF1 (C := cdX11_quarrelsNow) (by rfl) [] 40 (by exact Nat.le_of_ble_eq_true rfl) ?_
  simp (maxSteps := 2000000) only [go, stp, inS, ↓reduceIte, Bool.false_eq_true, Nat.reduceLT, Nat.reduceEqDiff, Nat.reduceAdd, ldI, ldL, ldA, st1, st2, okS, List.getElem?_cons_zero, List.getElem?_cons_succ, List.length_cons, List.length_nil, List.set_cons_zero, List.set_cons_succ, callP, callF, popN, ct, Value.category, cI, List.getD_cons_zero, List.getD_cons_succ, and_self, and_true, true_and, Nat.zero_le, Nat.reduceLeDiff, Nat.add_zero, Nat.zero_add, List.nil_append, List.cons_append, Option.toList_some, Option.toList_none, List.append_nil, hset_ss, true_or, or_true, eq_self, beq_self_eq_true, List.drop_succ_cons, List.drop_zero, swT, swL, hset_ap, not_true_eq_false, not_false_eq_true, true_implies, false_implies, implies_true, Int32.reduceLE, Int32.reduceLT, Int32.reduceAdd, Int32.reduceSub, Int32.reduceOfInt, Int32.reduceToNatClampNeg, i10, i01, Nat.add_left_cancel_iff, Nat.left_eq_add, Nat.add_eq_left, cdX11_quarrelsNow, F1, m2.o]
  refine D_whichBy (how := 2) m2 k2 h8 hk ho (by omega) (fun h3 c3 a3 m3 k3 _ o3 => ?_)
  refine go_ok okF1 (C := cdX11_quarrelsNow) (by rfl) [101] 40 (by exact Nat.le_of_ble_eq_true rfl) ?_
  simp (maxSteps := 2000000) only [go, stp, inS, ↓reduceIte, Bool.false_eq_true, Nat.reduceLT, Nat.reduceEqDiff, Nat.reduceAdd, ldI, ldL, ldA, st1, st2, okS, List.getElem?_cons_zero, List.getElem?_cons_succ, List.length_cons, List.length_nil, List.set_cons_zero, List.set_cons_succ, callP, callF, popN, ct, Value.category, cI, List.getD_cons_zero, List.getD_cons_succ, and_self, and_true, true_and, Nat.zero_le, Nat.reduceLeDiff, Nat.add_zero, Nat.zero_add, List.nil_append, List.cons_append, Option.toList_some, Option.toList_none, List.append_nil, hset_ss, true_or, or_true, eq_self, beq_self_eq_true, List.drop_succ_cons, List.drop_zero, swT, swL, hset_ap, not_true_eq_false, not_false_eq_true, true_implies, false_implies, implies_true, Int32.reduceLE, Int32.reduceLT, Int32.reduceAdd, Int32.reduceSub, Int32.reduceOfInt, Int32.reduceToNatClampNeg, i10, i01, Nat.add_left_cancel_iff, Nat.left_eq_add, Nat.add_eq_left, cdX11_quarrelsNow, F1]
  have fin := hq h3 c3 a3 m3 k3 ((o1.tr o2).tr o3)
  have cv : ∀ i, i < q * 3 → okV (a3 8 i) := fun i hi => by rw [k3.2.2]; exact hv i hi
  generalize wbM M s g q o 0 = w0 at fin ⊢
  generalize wbM M s g q o 1 = w1 at fin ⊢
  generalize wbM M s g q o 2 = w2 at fin ⊢
  generalize hp : (fun k => toF g w0 k q + toF g w1 k q + toF g w2 k q == toF g (-1) k q) = p at fin
  have pk : ∀ k, p k = (toF g w0 k q + toF g w1 k q + toF g w2 k q == toF g (-1) k q) := fun k => by rw [← hp]
  -- one column
  have col : ∀ j b, j < 3 → A z 207 n 0 0 h3 101 [some (.ref 52), some (.int (nI 5)), some (.int (nI o)), some (.int w0), some (.int w1), some (.int w2), some (.int (if (b && p j) = true then 1 else 0)), some (.int (nI (j + 1)))] [] Q → A z 207 n 0 0 h3 101 [some (.ref 52), some (.int (nI 5)), some (.int (nI o)), some (.int w0), some (.int w1), some (.int w2), some (.int (if b = true then 1 else 0)), some (.int (nI j))] [] Q := by
    intro j b hj nx
    have e : ¬ 3 ≤ nI j := by rw [show (3 : Int32) = nI 3 from rfl, i_le (by omega) (by omega)]; omega
    cases b with
    | false =>
      refine go_ok okF1 (C := cdX11_quarrelsNow) (by rfl) [101] 40 (by exact Nat.le_of_ble_eq_true rfl) ?_
      simp (maxSteps := 2000000) only [go, stp, inS, ↓reduceIte, Bool.false_eq_true, Nat.reduceLT, Nat.reduceEqDiff, Nat.reduceAdd, ldI, ldL, ldA, st1, st2, okS, List.getElem?_cons_zero, List.getElem?_cons_succ, List.length_cons, List.length_nil, List.set_cons_zero, List.set_cons_succ, callP, callF, popN, ct, Value.category, cI, List.getD_cons_zero, List.getD_cons_succ, and_self, and_true, true_and, Nat.zero_le, Nat.reduceLeDiff, Nat.add_zero, Nat.zero_add, List.nil_append, List.cons_append, Option.toList_some, Option.toList_none, List.append_nil, hset_ss, true_or, or_true, eq_self, beq_self_eq_true, List.drop_succ_cons, List.drop_zero, swT, swL, hset_ap, not_true_eq_false, not_false_eq_true, true_implies, false_implies, implies_true, Int32.reduceLE, Int32.reduceLT, Int32.reduceAdd, Int32.reduceSub, Int32.reduceOfInt, Int32.reduceToNatClampNeg, i10, i01, Nat.add_left_cancel_iff, Nat.left_eq_add, Nat.add_eq_left, cdX11_quarrelsNow, F1, e, nI_1]
      exact nx
    | true =>
      refine go_ok okF1 (C := cdX11_quarrelsNow) (by rfl) [] 40 (by exact Nat.le_of_ble_eq_true rfl) ?_
      simp (maxSteps := 2000000) only [go, stp, inS, ↓reduceIte, Bool.false_eq_true, Nat.reduceLT, Nat.reduceEqDiff, Nat.reduceAdd, ldI, ldL, ldA, st1, st2, okS, List.getElem?_cons_zero, List.getElem?_cons_succ, List.length_cons, List.length_nil, List.set_cons_zero, List.set_cons_succ, callP, callF, popN, ct, Value.category, cI, List.getD_cons_zero, List.getD_cons_succ, and_self, and_true, true_and, Nat.zero_le, Nat.reduceLeDiff, Nat.add_zero, Nat.zero_add, List.nil_append, List.cons_append, Option.toList_some, Option.toList_none, List.append_nil, hset_ss, true_or, or_true, eq_self, beq_self_eq_true, List.drop_succ_cons, List.drop_zero, swT, swL, hset_ap, not_true_eq_false, not_false_eq_true, true_implies, false_implies, implies_true, Int32.reduceLE, Int32.reduceLT, Int32.reduceAdd, Int32.reduceSub, Int32.reduceOfInt, Int32.reduceToNatClampNeg, i10, i01, Nat.add_left_cancel_iff, Nat.left_eq_add, Nat.add_eq_left, cdX11_quarrelsNow, F1, e, m3.o]
      refine D_total m3 k3.2.1 h8 hj cv ?_
      refine go_ok okF1 (C := cdX11_quarrelsNow) (by rfl) [] 40 (by exact Nat.le_of_ble_eq_true rfl) ?_
      simp (maxSteps := 2000000) only [go, stp, inS, ↓reduceIte, Bool.false_eq_true, Nat.reduceLT, Nat.reduceEqDiff, Nat.reduceAdd, ldI, ldL, ldA, st1, st2, okS, List.getElem?_cons_zero, List.getElem?_cons_succ, List.length_cons, List.length_nil, List.set_cons_zero, List.set_cons_succ, callP, callF, popN, ct, Value.category, cI, List.getD_cons_zero, List.getD_cons_succ, and_self, and_true, true_and, Nat.zero_le, Nat.reduceLeDiff, Nat.add_zero, Nat.zero_add, List.nil_append, List.cons_append, Option.toList_some, Option.toList_none, List.append_nil, hset_ss, true_or, or_true, eq_self, beq_self_eq_true, List.drop_succ_cons, List.drop_zero, swT, swL, hset_ap, not_true_eq_false, not_false_eq_true, true_implies, false_implies, implies_true, Int32.reduceLE, Int32.reduceLT, Int32.reduceAdd, Int32.reduceSub, Int32.reduceOfInt, Int32.reduceToNatClampNeg, i10, i01, Nat.add_left_cancel_iff, Nat.left_eq_add, Nat.add_eq_left, cdX11_quarrelsNow, F1, m3.o]
      refine D_total m3 k3.2.1 h8 hj cv ?_
      refine go_ok okF1 (C := cdX11_quarrelsNow) (by rfl) [] 40 (by exact Nat.le_of_ble_eq_true rfl) ?_
      simp (maxSteps := 2000000) only [go, stp, inS, ↓reduceIte, Bool.false_eq_true, Nat.reduceLT, Nat.reduceEqDiff, Nat.reduceAdd, ldI, ldL, ldA, st1, st2, okS, List.getElem?_cons_zero, List.getElem?_cons_succ, List.length_cons, List.length_nil, List.set_cons_zero, List.set_cons_succ, callP, callF, popN, ct, Value.category, cI, List.getD_cons_zero, List.getD_cons_succ, and_self, and_true, true_and, Nat.zero_le, Nat.reduceLeDiff, Nat.add_zero, Nat.zero_add, List.nil_append, List.cons_append, Option.toList_some, Option.toList_none, List.append_nil, hset_ss, true_or, or_true, eq_self, beq_self_eq_true, List.drop_succ_cons, List.drop_zero, swT, swL, hset_ap, not_true_eq_false, not_false_eq_true, true_implies, false_implies, implies_true, Int32.reduceLE, Int32.reduceLT, Int32.reduceAdd, Int32.reduceSub, Int32.reduceOfInt, Int32.reduceToNatClampNeg, i10, i01, Nat.add_left_cancel_iff, Nat.left_eq_add, Nat.add_eq_left, cdX11_quarrelsNow, F1, m3.o]
      refine D_total m3 k3.2.1 h8 hj cv ?_
      refine go_ok okF1 (C := cdX11_quarrelsNow) (by rfl) [] 40 (by exact Nat.le_of_ble_eq_true rfl) ?_
      simp (maxSteps := 2000000) only [go, stp, inS, ↓reduceIte, Bool.false_eq_true, Nat.reduceLT, Nat.reduceEqDiff, Nat.reduceAdd, ldI, ldL, ldA, st1, st2, okS, List.getElem?_cons_zero, List.getElem?_cons_succ, List.length_cons, List.length_nil, List.set_cons_zero, List.set_cons_succ, callP, callF, popN, ct, Value.category, cI, List.getD_cons_zero, List.getD_cons_succ, and_self, and_true, true_and, Nat.zero_le, Nat.reduceLeDiff, Nat.add_zero, Nat.zero_add, List.nil_append, List.cons_append, Option.toList_some, Option.toList_none, List.append_nil, hset_ss, true_or, or_true, eq_self, beq_self_eq_true, List.drop_succ_cons, List.drop_zero, swT, swL, hset_ap, not_true_eq_false, not_false_eq_true, true_implies, false_implies, implies_true, Int32.reduceLE, Int32.reduceLT, Int32.reduceAdd, Int32.reduceSub, Int32.reduceOfInt, Int32.reduceToNatClampNeg, i10, i01, Nat.add_left_cancel_iff, Nat.left_eq_add, Nat.add_eq_left, cdX11_quarrelsNow, F1, m3.o]
      refine D_total m3 k3.2.1 h8 hj cv ?_
      rw [k3.2.2]
      rw [Bool.true_and, pk] at nx
      by_cases e2 : toF g w0 j q + toF g w1 j q + toF g w2 j q = toF g (-1) j q
      · rw [e2] at nx
        refine go_ok okF1 (C := cdX11_quarrelsNow) (by rfl) [101] 40 (by exact Nat.le_of_ble_eq_true rfl) ?_
        simp (maxSteps := 2000000) only [go, stp, inS, ↓reduceIte, Bool.false_eq_true, Nat.reduceLT, Nat.reduceEqDiff, Nat.reduceAdd, ldI, ldL, ldA, st1, st2, okS, List.getElem?_cons_zero, List.getElem?_cons_succ, List.length_cons, List.length_nil, List.set_cons_zero, List.set_cons_succ, callP, callF, popN, ct, Value.category, cI, List.getD_cons_zero, List.getD_cons_succ, and_self, and_true, true_and, Nat.zero_le, Nat.reduceLeDiff, Nat.add_zero, Nat.zero_add, List.nil_append, List.cons_append, Option.toList_some, Option.toList_none, List.append_nil, hset_ss, true_or, or_true, eq_self, beq_self_eq_true, List.drop_succ_cons, List.drop_zero, swT, swL, hset_ap, not_true_eq_false, not_false_eq_true, true_implies, false_implies, implies_true, Int32.reduceLE, Int32.reduceLT, Int32.reduceAdd, Int32.reduceSub, Int32.reduceOfInt, Int32.reduceToNatClampNeg, i10, i01, Nat.add_left_cancel_iff, Nat.left_eq_add, Nat.add_eq_left, cdX11_quarrelsNow, F1, e2, nI_1]
        simpa using nx
      · refine go_ok okF1 (C := cdX11_quarrelsNow) (by rfl) [101] 40 (by exact Nat.le_of_ble_eq_true rfl) ?_
        simp (maxSteps := 2000000) only [go, stp, inS, ↓reduceIte, Bool.false_eq_true, Nat.reduceLT, Nat.reduceEqDiff, Nat.reduceAdd, ldI, ldL, ldA, st1, st2, okS, List.getElem?_cons_zero, List.getElem?_cons_succ, List.length_cons, List.length_nil, List.set_cons_zero, List.set_cons_succ, callP, callF, popN, ct, Value.category, cI, List.getD_cons_zero, List.getD_cons_succ, and_self, and_true, true_and, Nat.zero_le, Nat.reduceLeDiff, Nat.add_zero, Nat.zero_add, List.nil_append, List.cons_append, Option.toList_some, Option.toList_none, List.append_nil, hset_ss, true_or, or_true, eq_self, beq_self_eq_true, List.drop_succ_cons, List.drop_zero, swT, swL, hset_ap, not_true_eq_false, not_false_eq_true, true_implies, false_implies, implies_true, Int32.reduceLE, Int32.reduceLT, Int32.reduceAdd, Int32.reduceSub, Int32.reduceOfInt, Int32.reduceToNatClampNeg, i10, i01, Nat.add_left_cancel_iff, Nat.left_eq_add, Nat.add_eq_left, cdX11_quarrelsNow, F1, e2, nI_1]
        simpa [e2] using nx
  refine col 0 true (by omega) (col 1 _ (by omega) (col 2 _ (by omega) ?_))
  have ea : (((true && p 0) && p 1) && p 2) = all3 p := by unfold all3; rfl
  rw [ea]
  cases hA : all3 p with
  | true =>
    rw [hA] at fin
    refine go_ok okF1 (C := cdX11_quarrelsNow) (by rfl) [] 40 (by exact Nat.le_of_ble_eq_true rfl) ?_
    simp (maxSteps := 2000000) only [go, stp, inS, ↓reduceIte, Bool.false_eq_true, Nat.reduceLT, Nat.reduceEqDiff, Nat.reduceAdd, ldI, ldL, ldA, st1, st2, okS, List.getElem?_cons_zero, List.getElem?_cons_succ, List.length_cons, List.length_nil, List.set_cons_zero, List.set_cons_succ, callP, callF, popN, ct, Value.category, cI, List.getD_cons_zero, List.getD_cons_succ, and_self, and_true, true_and, Nat.zero_le, Nat.reduceLeDiff, Nat.add_zero, Nat.zero_add, List.nil_append, List.cons_append, Option.toList_some, Option.toList_none, List.append_nil, hset_ss, true_or, or_true, eq_self, beq_self_eq_true, List.drop_succ_cons, List.drop_zero, swT, swL, hset_ap, not_true_eq_false, not_false_eq_true, true_implies, false_implies, implies_true, Int32.reduceLE, Int32.reduceLT, Int32.reduceAdd, Int32.reduceSub, Int32.reduceOfInt, Int32.reduceToNatClampNeg, i10, i01, Nat.add_left_cancel_iff, Nat.left_eq_add, Nat.add_eq_left, cdX11_quarrelsNow, F1, (show (3 : Int32) ≤ nI (2 + 1) by decide)]
    exact fin
  | false =>
    rw [hA] at fin
    refine go_ok okF1 (C := cdX11_quarrelsNow) (by rfl) [] 40 (by exact Nat.le_of_ble_eq_true rfl) ?_
    simp (maxSteps := 2000000) only [go, stp, inS, ↓reduceIte, Bool.false_eq_true, Nat.reduceLT, Nat.reduceEqDiff, Nat.reduceAdd, ldI, ldL, ldA, st1, st2, okS, List.getElem?_cons_zero, List.getElem?_cons_succ, List.length_cons, List.length_nil, List.set_cons_zero, List.set_cons_succ, callP, callF, popN, ct, Value.category, cI, List.getD_cons_zero, List.getD_cons_succ, and_self, and_true, true_and, Nat.zero_le, Nat.reduceLeDiff, Nat.add_zero, Nat.zero_add, List.nil_append, List.cons_append, Option.toList_some, Option.toList_none, List.append_nil, hset_ss, true_or, or_true, eq_self, beq_self_eq_true, List.drop_succ_cons, List.drop_zero, swT, swL, hset_ap, not_true_eq_false, not_false_eq_true, true_implies, false_implies, implies_true, Int32.reduceLE, Int32.reduceLT, Int32.reduceAdd, Int32.reduceSub, Int32.reduceOfInt, Int32.reduceToNatClampNeg, i10, i01, Nat.add_left_cancel_iff, Nat.left_eq_add, Nat.add_eq_left, cdX11_quarrelsNow, F1, (show (3 : Int32) ≤ nI (2 + 1) by decide)]
    exact fin
set_option maxRecDepth 100000 in
set_option maxHeartbeats 400000 in
theorem now_6 (m : MH h c a l) (k : qs M s q g c a l) (h8 : q ≤ 8) (hk : sOk s) (ho : o < s.1) (hv : ∀ i, i < q * 3 → okV (g i)) (hq : ∀ h' c' a', MH h' c' a' l → qs M s q g c' a' l → sOff h h' 52 80 → Q (some (.int (if lwQ M s g q o 6 = true then 1 else 0))) n h') : Ok 207 [.ref 52, .int (nI 6), .int (nI o)] n h Q := by
  rw [lq_6 h8 hv] at hq
  refine ok_of kMX11_quarrelsNow kCX11_quarrelsNow (Nat.le_of_ble_eq_true rfl) (fun z => ?_)
  change A z _ _ 0 0 _ 0 [some (.ref 52), some (.int (nI 6)), some (.int (nI o)), none, none, none, none, none] [] _
  refine go_ok okF1 (C := cdX11_quarrelsNow) (by rfl) [] 40 (by exact Nat.le_of_ble_eq_true rfl) ?_
  simp (maxSteps := 2000000) only [go, stp, inS, ↓reduceIte, Bool.false_eq_true, Nat.reduceLT, Nat.reduceEqDiff, Nat.reduceAdd, ldI, ldL, ldA, st1, st2, okS, List.getElem?_cons_zero, List.getElem?_cons_succ, List.length_cons, List.length_nil, List.set_cons_zero, List.set_cons_succ, callP, callF, popN, ct, Value.category, cI, List.getD_cons_zero, List.getD_cons_succ, and_self, and_true, true_and, Nat.zero_le, Nat.reduceLeDiff, Nat.add_zero, Nat.zero_add, List.nil_append, List.cons_append, Option.toList_some, Option.toList_none, List.append_nil, hset_ss, true_or, or_true, eq_self, beq_self_eq_true, List.drop_succ_cons, List.drop_zero, swT, swL, hset_ap, not_true_eq_false, not_false_eq_true, true_implies, false_implies, implies_true, Int32.reduceLE, Int32.reduceLT, Int32.reduceAdd, Int32.reduceSub, Int32.reduceOfInt, Int32.reduceToNatClampNeg, i10, i01, Nat.add_left_cancel_iff, Nat.left_eq_add, Nat.add_eq_left, cdX11_quarrelsNow, F1, m.o]
  refine D_whichBy (how := 0) m k h8 hk ho (by omega) (fun h1 c1 a1 m1 k1 _ o1 => ?_)
  refine go_ok okF1 (C := cdX11_quarrelsNow) (by rfl) [] 40 (by exact Nat.le_of_ble_eq_true rfl) ?_
  simp (maxSteps := 2000000) only [go, stp, inS, ↓reduceIte, Bool.false_eq_true, Nat.reduceLT, Nat.reduceEqDiff, Nat.reduceAdd, ldI, ldL, ldA, st1, st2, okS, List.getElem?_cons_zero, List.getElem?_cons_succ, List.length_cons, List.length_nil, List.set_cons_zero, List.set_cons_succ, callP, callF, popN, ct, Value.category, cI, List.getD_cons_zero, List.getD_cons_succ, and_self, and_true, true_and, Nat.zero_le, Nat.reduceLeDiff, Nat.add_zero, Nat.zero_add, List.nil_append, List.cons_append, Option.toList_some, Option.toList_none, List.append_nil, hset_ss, true_or, or_true, eq_self, beq_self_eq_true, List.drop_succ_cons, List.drop_zero, swT, swL, hset_ap, not_true_eq_false, not_false_eq_true, true_implies, false_implies, implies_true, Int32.reduceLE, Int32.reduceLT, Int32.reduceAdd, Int32.reduceSub, Int32.reduceOfInt, Int32.reduceToNatClampNeg, i10, i01, Nat.add_left_cancel_iff, Nat.left_eq_add, Nat.add_eq_left, cdX11_quarrelsNow, F1, m1.o, (show nI 6 = 6 from rfl), (show ¬ (6 : Int32) = 0 by decide), (show ¬ (6 : Int32) = 3 by decide), (show ¬ (6 : Int32) = 4 by decide), (show ¬ (6 : Int32) = 5 by decide)]
  refine D_whichBy (how := 5) m1 k1 h8 hk ho (by omega) (fun h2 c2 a2 m2 k2 _ o2 => ?_)
  refine go_ok okF1 (C := cdX11_quarrelsNow) (by rfl) [] 40 (by exact Nat.le_of_ble_eq_true rfl) ?_
  simp (maxSteps := 2000000) only [go, stp, inS, ↓reduceIte, Bool.false_eq_true, Nat.reduceLT, Nat.reduceEqDiff, Nat.reduceAdd, ldI, ldL, ldA, st1, st2, okS, List.getElem?_cons_zero, List.getElem?_cons_succ, List.length_cons, List.length_nil, List.set_cons_zero, List.set_cons_succ, callP, callF, popN, ct, Value.category, cI, List.getD_cons_zero, List.getD_cons_succ, and_self, and_true, true_and, Nat.zero_le, Nat.reduceLeDiff, Nat.add_zero, Nat.zero_add, List.nil_append, List.cons_append, Option.toList_some, Option.toList_none, List.append_nil, hset_ss, true_or, or_true, eq_self, beq_self_eq_true, List.drop_succ_cons, List.drop_zero, swT, swL, hset_ap, not_true_eq_false, not_false_eq_true, true_implies, false_implies, implies_true, Int32.reduceLE, Int32.reduceLT, Int32.reduceAdd, Int32.reduceSub, Int32.reduceOfInt, Int32.reduceToNatClampNeg, i10, i01, Nat.add_left_cancel_iff, Nat.left_eq_add, Nat.add_eq_left, cdX11_quarrelsNow, F1, m2.o]
  refine D_whichBy (how := 6) m2 k2 h8 hk ho (by omega) (fun h3 c3 a3 m3 k3 _ o3 => ?_)
  refine go_ok okF1 (C := cdX11_quarrelsNow) (by rfl) [194] 40 (by exact Nat.le_of_ble_eq_true rfl) ?_
  simp (maxSteps := 2000000) only [go, stp, inS, ↓reduceIte, Bool.false_eq_true, Nat.reduceLT, Nat.reduceEqDiff, Nat.reduceAdd, ldI, ldL, ldA, st1, st2, okS, List.getElem?_cons_zero, List.getElem?_cons_succ, List.length_cons, List.length_nil, List.set_cons_zero, List.set_cons_succ, callP, callF, popN, ct, Value.category, cI, List.getD_cons_zero, List.getD_cons_succ, and_self, and_true, true_and, Nat.zero_le, Nat.reduceLeDiff, Nat.add_zero, Nat.zero_add, List.nil_append, List.cons_append, Option.toList_some, Option.toList_none, List.append_nil, hset_ss, true_or, or_true, eq_self, beq_self_eq_true, List.drop_succ_cons, List.drop_zero, swT, swL, hset_ap, not_true_eq_false, not_false_eq_true, true_implies, false_implies, implies_true, Int32.reduceLE, Int32.reduceLT, Int32.reduceAdd, Int32.reduceSub, Int32.reduceOfInt, Int32.reduceToNatClampNeg, i10, i01, Nat.add_left_cancel_iff, Nat.left_eq_add, Nat.add_eq_left, cdX11_quarrelsNow, F1]
  have fin := hq h3 c3 a3 m3 k3 ((o1.tr o2).tr o3)
  have kl : ∀ x k, kiN g x k q < 2147483648 := fun x k => by
    have : ∀ m, kiN g x k m ≤ m := fun m => by
      induction m with
      | zero => exact Nat.le_refl _
      | succ m ih => rw [kiN]; have := b2n_le (bt x m && !anyB m (fun o => bt x o && g (o * 3 + k) == g (m * 3 + k))); omega
    have := this q; omega
  generalize wbM M s g q o 0 = w0 at fin ⊢
  generalize wbM M s g q o 5 = w1 at fin ⊢
  generalize wbM M s g q o 6 = w2 at fin ⊢
  generalize hp : (fun k => decide (kiN g w0 k q ≤ kiN g w1 k q) && decide (kiN g w2 k q ≤ kiN g w0 k q)) = p at fin
  have pk : ∀ k, p k = (decide (kiN g w0 k q ≤ kiN g w1 k q) && decide (kiN g w2 k q ≤ kiN g w0 k q)) := fun k => by rw [← hp]
  have col : ∀ j b, j < 3 → A z 207 n 0 0 h3 194 [some (.ref 52), some (.int (nI 6)), some (.int (nI o)), some (.int w0), some (.int w1), some (.int w2), some (.int (if (b && p j) = true then 1 else 0)), some (.int (nI (j + 1)))] [] Q → A z 207 n 0 0 h3 194 [some (.ref 52), some (.int (nI 6)), some (.int (nI o)), some (.int w0), some (.int w1), some (.int w2), some (.int (if b = true then 1 else 0)), some (.int (nI j))] [] Q := by
    intro j b hj nx
    have e : ¬ 3 ≤ nI j := by rw [show (3 : Int32) = nI 3 from rfl, i_le (by omega) (by omega)]; omega
    cases b with
    | false =>
      refine go_ok okF1 (C := cdX11_quarrelsNow) (by rfl) [194] 40 (by exact Nat.le_of_ble_eq_true rfl) ?_
      simp (maxSteps := 2000000) only [go, stp, inS, ↓reduceIte, Bool.false_eq_true, Nat.reduceLT, Nat.reduceEqDiff, Nat.reduceAdd, ldI, ldL, ldA, st1, st2, okS, List.getElem?_cons_zero, List.getElem?_cons_succ, List.length_cons, List.length_nil, List.set_cons_zero, List.set_cons_succ, callP, callF, popN, ct, Value.category, cI, List.getD_cons_zero, List.getD_cons_succ, and_self, and_true, true_and, Nat.zero_le, Nat.reduceLeDiff, Nat.add_zero, Nat.zero_add, List.nil_append, List.cons_append, Option.toList_some, Option.toList_none, List.append_nil, hset_ss, true_or, or_true, eq_self, beq_self_eq_true, List.drop_succ_cons, List.drop_zero, swT, swL, hset_ap, not_true_eq_false, not_false_eq_true, true_implies, false_implies, implies_true, Int32.reduceLE, Int32.reduceLT, Int32.reduceAdd, Int32.reduceSub, Int32.reduceOfInt, Int32.reduceToNatClampNeg, i10, i01, Nat.add_left_cancel_iff, Nat.left_eq_add, Nat.add_eq_left, cdX11_quarrelsNow, F1, e, nI_1]
      exact nx
    | true =>
      rw [Bool.true_and, pk] at nx
      refine go_ok okF1 (C := cdX11_quarrelsNow) (by rfl) [] 40 (by exact Nat.le_of_ble_eq_true rfl) ?_
      simp (maxSteps := 2000000) only [go, stp, inS, ↓reduceIte, Bool.false_eq_true, Nat.reduceLT, Nat.reduceEqDiff, Nat.reduceAdd, ldI, ldL, ldA, st1, st2, okS, List.getElem?_cons_zero, List.getElem?_cons_succ, List.length_cons, List.length_nil, List.set_cons_zero, List.set_cons_succ, callP, callF, popN, ct, Value.category, cI, List.getD_cons_zero, List.getD_cons_succ, and_self, and_true, true_and, Nat.zero_le, Nat.reduceLeDiff, Nat.add_zero, Nat.zero_add, List.nil_append, List.cons_append, Option.toList_some, Option.toList_none, List.append_nil, hset_ss, true_or, or_true, eq_self, beq_self_eq_true, List.drop_succ_cons, List.drop_zero, swT, swL, hset_ap, not_true_eq_false, not_false_eq_true, true_implies, false_implies, implies_true, Int32.reduceLE, Int32.reduceLT, Int32.reduceAdd, Int32.reduceSub, Int32.reduceOfInt, Int32.reduceToNatClampNeg, i10, i01, Nat.add_left_cancel_iff, Nat.left_eq_add, Nat.add_eq_left, cdX11_quarrelsNow, F1, e, m3.o]
      refine D_kinds m3 k3.2.1 h8 hj ?_
      refine go_ok okF1 (C := cdX11_quarrelsNow) (by rfl) [] 40 (by exact Nat.le_of_ble_eq_true rfl) ?_
      simp (maxSteps := 2000000) only [go, stp, inS, ↓reduceIte, Bool.false_eq_true, Nat.reduceLT, Nat.reduceEqDiff, Nat.reduceAdd, ldI, ldL, ldA, st1, st2, okS, List.getElem?_cons_zero, List.getElem?_cons_succ, List.length_cons, List.length_nil, List.set_cons_zero, List.set_cons_succ, callP, callF, popN, ct, Value.category, cI, List.getD_cons_zero, List.getD_cons_succ, and_self, and_true, true_and, Nat.zero_le, Nat.reduceLeDiff, Nat.add_zero, Nat.zero_add, List.nil_append, List.cons_append, Option.toList_some, Option.toList_none, List.append_nil, hset_ss, true_or, or_true, eq_self, beq_self_eq_true, List.drop_succ_cons, List.drop_zero, swT, swL, hset_ap, not_true_eq_false, not_false_eq_true, true_implies, false_implies, implies_true, Int32.reduceLE, Int32.reduceLT, Int32.reduceAdd, Int32.reduceSub, Int32.reduceOfInt, Int32.reduceToNatClampNeg, i10, i01, Nat.add_left_cancel_iff, Nat.left_eq_add, Nat.add_eq_left, cdX11_quarrelsNow, F1, m3.o]
      refine D_kinds m3 k3.2.1 h8 hj ?_
      rw [k3.2.2]
      by_cases e1 : kiN g w0 j q ≤ kiN g w1 j q
      · have f1 : ¬ nI (kiN g w1 j q) < nI (kiN g w0 j q) := by rw [i_lt (kl _ _) (kl _ _)]; omega
        refine go_ok okF1 (C := cdX11_quarrelsNow) (by rfl) [] 40 (by exact Nat.le_of_ble_eq_true rfl) ?_
        simp (maxSteps := 2000000) only [go, stp, inS, ↓reduceIte, Bool.false_eq_true, Nat.reduceLT, Nat.reduceEqDiff, Nat.reduceAdd, ldI, ldL, ldA, st1, st2, okS, List.getElem?_cons_zero, List.getElem?_cons_succ, List.length_cons, List.length_nil, List.set_cons_zero, List.set_cons_succ, callP, callF, popN, ct, Value.category, cI, List.getD_cons_zero, List.getD_cons_succ, and_self, and_true, true_and, Nat.zero_le, Nat.reduceLeDiff, Nat.add_zero, Nat.zero_add, List.nil_append, List.cons_append, Option.toList_some, Option.toList_none, List.append_nil, hset_ss, true_or, or_true, eq_self, beq_self_eq_true, List.drop_succ_cons, List.drop_zero, swT, swL, hset_ap, not_true_eq_false, not_false_eq_true, true_implies, false_implies, implies_true, Int32.reduceLE, Int32.reduceLT, Int32.reduceAdd, Int32.reduceSub, Int32.reduceOfInt, Int32.reduceToNatClampNeg, i10, i01, Nat.add_left_cancel_iff, Nat.left_eq_add, Nat.add_eq_left, cdX11_quarrelsNow, F1, f1, m3.o]
        refine D_kinds m3 k3.2.1 h8 hj ?_
        refine go_ok okF1 (C := cdX11_quarrelsNow) (by rfl) [] 40 (by exact Nat.le_of_ble_eq_true rfl) ?_
        simp (maxSteps := 2000000) only [go, stp, inS, ↓reduceIte, Bool.false_eq_true, Nat.reduceLT, Nat.reduceEqDiff, Nat.reduceAdd, ldI, ldL, ldA, st1, st2, okS, List.getElem?_cons_zero, List.getElem?_cons_succ, List.length_cons, List.length_nil, List.set_cons_zero, List.set_cons_succ, callP, callF, popN, ct, Value.category, cI, List.getD_cons_zero, List.getD_cons_succ, and_self, and_true, true_and, Nat.zero_le, Nat.reduceLeDiff, Nat.add_zero, Nat.zero_add, List.nil_append, List.cons_append, Option.toList_some, Option.toList_none, List.append_nil, hset_ss, true_or, or_true, eq_self, beq_self_eq_true, List.drop_succ_cons, List.drop_zero, swT, swL, hset_ap, not_true_eq_false, not_false_eq_true, true_implies, false_implies, implies_true, Int32.reduceLE, Int32.reduceLT, Int32.reduceAdd, Int32.reduceSub, Int32.reduceOfInt, Int32.reduceToNatClampNeg, i10, i01, Nat.add_left_cancel_iff, Nat.left_eq_add, Nat.add_eq_left, cdX11_quarrelsNow, F1, m3.o]
        refine D_kinds m3 k3.2.1 h8 hj ?_
        rw [k3.2.2]
        by_cases e2 : kiN g w2 j q ≤ kiN g w0 j q
        · have f2 : ¬ nI (kiN g w0 j q) < nI (kiN g w2 j q) := by rw [i_lt (kl _ _) (kl _ _)]; omega
          refine go_ok okF1 (C := cdX11_quarrelsNow) (by rfl) [194] 40 (by exact Nat.le_of_ble_eq_true rfl) ?_
          simp (maxSteps := 2000000) only [go, stp, inS, ↓reduceIte, Bool.false_eq_true, Nat.reduceLT, Nat.reduceEqDiff, Nat.reduceAdd, ldI, ldL, ldA, st1, st2, okS, List.getElem?_cons_zero, List.getElem?_cons_succ, List.length_cons, List.length_nil, List.set_cons_zero, List.set_cons_succ, callP, callF, popN, ct, Value.category, cI, List.getD_cons_zero, List.getD_cons_succ, and_self, and_true, true_and, Nat.zero_le, Nat.reduceLeDiff, Nat.add_zero, Nat.zero_add, List.nil_append, List.cons_append, Option.toList_some, Option.toList_none, List.append_nil, hset_ss, true_or, or_true, eq_self, beq_self_eq_true, List.drop_succ_cons, List.drop_zero, swT, swL, hset_ap, not_true_eq_false, not_false_eq_true, true_implies, false_implies, implies_true, Int32.reduceLE, Int32.reduceLT, Int32.reduceAdd, Int32.reduceSub, Int32.reduceOfInt, Int32.reduceToNatClampNeg, i10, i01, Nat.add_left_cancel_iff, Nat.left_eq_add, Nat.add_eq_left, cdX11_quarrelsNow, F1, f2, nI_1]
          simpa [e1, e2] using nx
        · have f2 : nI (kiN g w0 j q) < nI (kiN g w2 j q) := by rw [i_lt (kl _ _) (kl _ _)]; omega
          refine go_ok okF1 (C := cdX11_quarrelsNow) (by rfl) [194] 40 (by exact Nat.le_of_ble_eq_true rfl) ?_
          simp (maxSteps := 2000000) only [go, stp, inS, ↓reduceIte, Bool.false_eq_true, Nat.reduceLT, Nat.reduceEqDiff, Nat.reduceAdd, ldI, ldL, ldA, st1, st2, okS, List.getElem?_cons_zero, List.getElem?_cons_succ, List.length_cons, List.length_nil, List.set_cons_zero, List.set_cons_succ, callP, callF, popN, ct, Value.category, cI, List.getD_cons_zero, List.getD_cons_succ, and_self, and_true, true_and, Nat.zero_le, Nat.reduceLeDiff, Nat.add_zero, Nat.zero_add, List.nil_append, List.cons_append, Option.toList_some, Option.toList_none, List.append_nil, hset_ss, true_or, or_true, eq_self, beq_self_eq_true, List.drop_succ_cons, List.drop_zero, swT, swL, hset_ap, not_true_eq_false, not_false_eq_true, true_implies, false_implies, implies_true, Int32.reduceLE, Int32.reduceLT, Int32.reduceAdd, Int32.reduceSub, Int32.reduceOfInt, Int32.reduceToNatClampNeg, i10, i01, Nat.add_left_cancel_iff, Nat.left_eq_add, Nat.add_eq_left, cdX11_quarrelsNow, F1, f2, nI_1]
          simpa [e1, e2] using nx
      · have f1 : nI (kiN g w1 j q) < nI (kiN g w0 j q) := by rw [i_lt (kl _ _) (kl _ _)]; omega
        refine go_ok okF1 (C := cdX11_quarrelsNow) (by rfl) [194] 40 (by exact Nat.le_of_ble_eq_true rfl) ?_
        simp (maxSteps := 2000000) only [go, stp, inS, ↓reduceIte, Bool.false_eq_true, Nat.reduceLT, Nat.reduceEqDiff, Nat.reduceAdd, ldI, ldL, ldA, st1, st2, okS, List.getElem?_cons_zero, List.getElem?_cons_succ, List.length_cons, List.length_nil, List.set_cons_zero, List.set_cons_succ, callP, callF, popN, ct, Value.category, cI, List.getD_cons_zero, List.getD_cons_succ, and_self, and_true, true_and, Nat.zero_le, Nat.reduceLeDiff, Nat.add_zero, Nat.zero_add, List.nil_append, List.cons_append, Option.toList_some, Option.toList_none, List.append_nil, hset_ss, true_or, or_true, eq_self, beq_self_eq_true, List.drop_succ_cons, List.drop_zero, swT, swL, hset_ap, not_true_eq_false, not_false_eq_true, true_implies, false_implies, implies_true, Int32.reduceLE, Int32.reduceLT, Int32.reduceAdd, Int32.reduceSub, Int32.reduceOfInt, Int32.reduceToNatClampNeg, i10, i01, Nat.add_left_cancel_iff, Nat.left_eq_add, Nat.add_eq_left, cdX11_quarrelsNow, F1, f1, nI_1]
        simpa [e1] using nx
  refine col 0 true (by omega) (col 1 _ (by omega) (col 2 _ (by omega) ?_))
  have ea : (((true && p 0) && p 1) && p 2) = all3 p := by unfold all3; rfl
  rw [ea]
  cases hA : all3 p with
  | true =>
    rw [hA] at fin
    refine go_ok okF1 (C := cdX11_quarrelsNow) (by rfl) [] 40 (by exact Nat.le_of_ble_eq_true rfl) ?_
    simp (maxSteps := 2000000) only [go, stp, inS, ↓reduceIte, Bool.false_eq_true, Nat.reduceLT, Nat.reduceEqDiff, Nat.reduceAdd, ldI, ldL, ldA, st1, st2, okS, List.getElem?_cons_zero, List.getElem?_cons_succ, List.length_cons, List.length_nil, List.set_cons_zero, List.set_cons_succ, callP, callF, popN, ct, Value.category, cI, List.getD_cons_zero, List.getD_cons_succ, and_self, and_true, true_and, Nat.zero_le, Nat.reduceLeDiff, Nat.add_zero, Nat.zero_add, List.nil_append, List.cons_append, Option.toList_some, Option.toList_none, List.append_nil, hset_ss, true_or, or_true, eq_self, beq_self_eq_true, List.drop_succ_cons, List.drop_zero, swT, swL, hset_ap, not_true_eq_false, not_false_eq_true, true_implies, false_implies, implies_true, Int32.reduceLE, Int32.reduceLT, Int32.reduceAdd, Int32.reduceSub, Int32.reduceOfInt, Int32.reduceToNatClampNeg, i10, i01, Nat.add_left_cancel_iff, Nat.left_eq_add, Nat.add_eq_left, cdX11_quarrelsNow, F1, (show (3 : Int32) ≤ nI (2 + 1) by decide)]
    exact fin
  | false =>
    rw [hA] at fin
    refine go_ok okF1 (C := cdX11_quarrelsNow) (by rfl) [] 40 (by exact Nat.le_of_ble_eq_true rfl) ?_
    simp (maxSteps := 2000000) only [go, stp, inS, ↓reduceIte, Bool.false_eq_true, Nat.reduceLT, Nat.reduceEqDiff, Nat.reduceAdd, ldI, ldL, ldA, st1, st2, okS, List.getElem?_cons_zero, List.getElem?_cons_succ, List.length_cons, List.length_nil, List.set_cons_zero, List.set_cons_succ, callP, callF, popN, ct, Value.category, cI, List.getD_cons_zero, List.getD_cons_succ, and_self, and_true, true_and, Nat.zero_le, Nat.reduceLeDiff, Nat.add_zero, Nat.zero_add, List.nil_append, List.cons_append, Option.toList_some, Option.toList_none, List.append_nil, hset_ss, true_or, or_true, eq_self, beq_self_eq_true, List.drop_succ_cons, List.drop_zero, swT, swL, hset_ap, not_true_eq_false, not_false_eq_true, true_implies, false_implies, implies_true, Int32.reduceLE, Int32.reduceLT, Int32.reduceAdd, Int32.reduceSub, Int32.reduceOfInt, Int32.reduceToNatClampNeg, i10, i01, Nat.add_left_cancel_iff, Nat.left_eq_add, Nat.add_eq_left, cdX11_quarrelsNow, F1, (show (3 : Int32) ≤ nI (2 + 1) by decide)]
    exact fin
end MR2
