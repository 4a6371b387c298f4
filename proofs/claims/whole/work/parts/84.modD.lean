
/-! the model: write, read, copy, count -/
section MD2
variable {n : Nat} {h : aH} {Q : aQ} {M : MS} {c : Nat → Int32} {a : Nat → Nat → Int32} {l : Nat → Nat → Int64}
theorem mR.items (r : mR M c a l) {s : Nat} {J : Nat → Int64} {g : Nat → Int64} (ok : MOk M) (hf : ¬ M.fm s = -1) (hs : s < 4) (h1 : ∀ i, i < M.sz s → g (48 * s + i) = J i) (h2 : ∀ q, (q < 48 * s ∨ 48 * s + M.sz s ≤ q) → g q = l 2 q) : mR (shM M s J (M.fm s) (M.sz s)) c a (fset l 2 g) := by
  refine ⟨r.1, r.2.1, r.2.2.1, r.2.2.2.1, r.2.2.2.2.1, fun s' hs' => ?_, fun s' hs' hf' => ?_, fun s' i' hs' hf' hi' => ?_⟩
  · show a 0 s' = fset M.fm s (M.fm s) s'
    by_cases e : s' = s
    · subst e; rw [fset_s]; exact r.fm hs'
    · rw [fset_n _ _ e]; exact r.fm hs'
  · have hf' : ¬ fset M.fm s (M.fm s) s' = -1 := hf'
    show a 1 s' = nI (fset M.sz s (M.sz s) s')
    by_cases e : s' = s
    · subst e; rw [fset_s]; exact r.sz hs' hf
    · rw [fset_n _ _ e] at hf' ⊢; exact r.sz hs' hf'
  · have hf' : ¬ fset M.fm s (M.fm s) s' = -1 := hf'
    have hi' : i' < fset M.sz s (M.sz s) s' := hi'
    show g (48 * s' + i') = fset M.I s J s' i'
    by_cases e : s' = s
    · subst e; rw [fset_s] at hi' ⊢; exact h1 i' hi'
    · rw [fset_n _ _ e] at hf' hi' ⊢
      have := ok.sz s' hs'
      have := ok.sz s hs
      rw [h2 _ (by omega)]; exact r.it hs' hf' hi'
set_option maxRecDepth 100000 in
set_option maxHeartbeats 400000 in
theorem D_write {x : Int32} (m : MI h M) (ok : MOk M) (hq : ∀ h', MI h' (stWrite M x).2 → sOff h h' 52 80 → Q (some (.int (stWrite M x).1)) n h') : Ok 236 [.ref 52, .int x] n h Q := by
  unfold stWrite at hq
  have m0 := m
  have hnr := ok.nr
  obtain ⟨c, a, l, m, r⟩ := m
  refine ok_of kMX11_write kCX11_write (Nat.le_of_ble_eq_true rfl) (fun z => ?_)
  change A z _ _ 0 0 _ 0 [some (.ref 52), some (.int x), none, none] [] _
  by_cases hx : 0 ≤ x ∧ x < 4
  · obtain ⟨s, hs, rfl⟩ := i_of (n := 4) (by omega) (i_nlt.mpr hx.1) hx.2
    rw [if_pos hx, i_cl (show s < 2147483648 by omega)] at hq
    have hsz := ok.sz s hs
    refine go_ok okF1 (C := cdX11_write) (by rfl) [25] 40 (by exact Nat.le_of_ble_eq_true rfl) ?_
    simp (maxSteps := 2000000) only [go, stp, inS, ↓reduceIte, Bool.false_eq_true, Nat.reduceLT, Nat.reduceEqDiff, Nat.reduceAdd, ldI, ldL, ldA, st1, st2, okS, List.getElem?_cons_zero, List.getElem?_cons_succ, List.length_cons, List.length_nil, List.set_cons_zero, List.set_cons_succ, callP, callF, popN, ct, Value.category, cI, List.getD_cons_zero, List.getD_cons_succ, and_self, and_true, true_and, Nat.zero_le, Nat.reduceLeDiff, Nat.add_zero, Nat.zero_add, List.nil_append, List.cons_append, Option.toList_some, Option.toList_none, List.append_nil, hset_ss, true_or, or_true, eq_self, beq_self_eq_true, List.drop_succ_cons, List.drop_zero, swT, swL, hset_ap, not_true_eq_false, not_false_eq_true, true_implies, false_implies, implies_true, Int32.reduceLE, Int32.reduceLT, Int32.reduceAdd, Int32.reduceSub, Int32.reduceOfInt, Int32.reduceToNatClampNeg, i10, i01, Nat.add_left_cancel_iff, Nat.left_eq_add, Nat.add_eq_left, cdX11_write, F1, eq_true hx, m.o, m.a0, i_cl (show s < 2147483648 by omega), r.fm hs]
    refine ⟨vp_in_nI (by omega) (by omega), fun c1 => ?_, fun c1 => ?_⟩
    · have hf : ¬ M.fm s = -1 := fun q => absurd c1 (i_nle.mpr ((fmn ok hs).mpr q))
      rw [if_neg hf] at hq
      have hk : mnN (M.nr * 3) (M.sz s) ≤ M.nr * 3 ∧ mnN (M.nr * 3) (M.sz s) ≤ M.sz s := by unfold mnN; split <;> omega
      have loop : ∀ q i (h' : aH) (l' : Nat → Nat → Int64), i + q = mnN (M.nr * 3) (M.sz s) → MH h' c a l' → (∀ p, l' 2 p = if 48 * s ≤ p ∧ p < 48 * s + i then nwF (M.fm s) (M.f (p - 48 * s)).toInt64 else l 2 p) → (∀ p, p ≠ 2 → l' p = l p) → sOff h h' 52 80 → A z 236 n 0 0 h' 58 [some (.ref 52), some (.int (nI s)), some (.int (nI (mnN (M.nr * 3) (M.sz s)))), some (.int (nI i))] [] Q := by
        intro q
        induction q with
        | zero =>
          intro i h' l' hi m' hl hl2 hO
          obtain rfl : i = mnN (M.nr * 3) (M.sz s) := by omega
          generalize mnN (M.nr * 3) (M.sz s) = k at hq hk hl ⊢
          refine go_ok okF1 (C := cdX11_write) (by rfl) [] 40 (by exact Nat.le_of_ble_eq_true rfl) ?_
          simp (maxSteps := 2000000) only [go, stp, inS, ↓reduceIte, Bool.false_eq_true, Nat.reduceLT, Nat.reduceEqDiff, Nat.reduceAdd, ldI, ldL, ldA, st1, st2, okS, List.getElem?_cons_zero, List.getElem?_cons_succ, List.length_cons, List.length_nil, List.set_cons_zero, List.set_cons_succ, callP, callF, popN, ct, Value.category, cI, List.getD_cons_zero, List.getD_cons_succ, and_self, and_true, true_and, Nat.zero_le, Nat.reduceLeDiff, Nat.add_zero, Nat.zero_add, List.nil_append, List.cons_append, Option.toList_some, Option.toList_none, List.append_nil, hset_ss, true_or, or_true, eq_self, beq_self_eq_true, List.drop_succ_cons, List.drop_zero, swT, swL, hset_ap, not_true_eq_false, not_false_eq_true, true_implies, false_implies, implies_true, Int32.reduceLE, Int32.reduceLT, Int32.reduceAdd, Int32.reduceSub, Int32.reduceOfInt, Int32.reduceToNatClampNeg, i10, i01, Nat.add_left_cancel_iff, Nat.left_eq_add, Nat.add_eq_left, cdX11_write, F1, (show nI k ≤ nI k from (i_le (by omega) (by omega)).mpr (by omega))]
          have el : l' = fset l 2 (l' 2) := by
            funext p
            by_cases e : p = 2
            · subst e; rw [fset_s]
            · rw [fset_n _ _ e]; exact hl2 p e
          refine hq h' ⟨c, a, l', m', ?_⟩ hO
          rw [el]
          refine r.items ok hf hs (fun i hi => ?_) (fun q hq => ?_)
          · rw [hl]; unfold wrI
            by_cases e : i < k
            · rw [if_pos (by omega), if_pos e, show 48 * s + i - 48 * s = i by omega]
            · rw [if_neg (by omega), if_neg e]; exact r.it hs hf hi
          · rw [hl, if_neg (by omega)]
        | succ q ih =>
          intro i h' l' hi m' hl hl2 hO
          have e : ¬ nI (mnN (M.nr * 3) (M.sz s)) ≤ nI i := by rw [i_le (by omega) (by omega)]; omega
          refine go_ok okF1 (C := cdX11_write) (by rfl) [58] 40 (by exact Nat.le_of_ble_eq_true rfl) ?_
          simp (maxSteps := 2000000) only [go, stp, inS, ↓reduceIte, Bool.false_eq_true, Nat.reduceLT, Nat.reduceEqDiff, Nat.reduceAdd, ldI, ldL, ldA, st1, st2, okS, List.getElem?_cons_zero, List.getElem?_cons_succ, List.length_cons, List.length_nil, List.set_cons_zero, List.set_cons_succ, callP, callF, popN, ct, Value.category, cI, List.getD_cons_zero, List.getD_cons_succ, and_self, and_true, true_and, Nat.zero_le, Nat.reduceLeDiff, Nat.add_zero, Nat.zero_add, List.nil_append, List.cons_append, Option.toList_some, Option.toList_none, List.append_nil, hset_ss, true_or, or_true, eq_self, beq_self_eq_true, List.drop_succ_cons, List.drop_zero, swT, swL, hset_ap, not_true_eq_false, not_false_eq_true, true_implies, false_implies, implies_true, Int32.reduceLE, Int32.reduceLT, Int32.reduceAdd, Int32.reduceSub, Int32.reduceOfInt, Int32.reduceToNatClampNeg, i10, i01, Nat.add_left_cancel_iff, Nat.left_eq_add, Nat.add_eq_left, cdX11_write, F1, e, m'.o, m'.a0, m'.a2, m'.a6, ix48, i_cl (show 48 * s + i < 2147483648 by omega), i_cl (show i < 2147483648 by omega), i_cl (show s < 2147483648 by omega), r.fm hs, r.tb (show i < M.nr * 3 by omega), nI_1]
          repeat refine ⟨vp_in_nI (by omega) (by omega), ?_⟩
          refine ih (i + 1) _ _ (by omega) (m'.s2 _) (fun p => ?_) (fun p hp => by rw [fset_n _ _ hp]; exact hl2 p hp) (hO.set (by omega) (by omega))
          show vp_updL (l' 2) (48 * s + i) (nwF (M.fm s) (M.f i).toInt64) p = _
          by_cases e2 : p = 48 * s + i
          · subst e2; rw [pk_uLs, if_pos (by omega), show 48 * s + i - 48 * s = i by omega]
          · rw [pk_uLn e2, hl]
            by_cases e3 : 48 * s ≤ p ∧ p < 48 * s + i
            · rw [if_pos e3, if_pos (by omega)]
            · rw [if_neg e3, if_neg (by omega)]
      have start := loop (mnN (M.nr * 3) (M.sz s)) 0 h l (by omega) m (fun p => by rw [if_neg (by omega)]) (fun _ _ => rfl) sOff.rf
      by_cases c2 : M.nr * 3 < M.sz s
      · have e : ¬ nI (M.sz s) ≤ nI (3 * M.nr) := by rw [i_le (by omega) (by omega)]; omega
        refine go_ok okF1 (C := cdX11_write) (by rfl) [58] 40 (by exact Nat.le_of_ble_eq_true rfl) ?_
        simp (maxSteps := 2000000) only [go, stp, inS, ↓reduceIte, Bool.false_eq_true, Nat.reduceLT, Nat.reduceEqDiff, Nat.reduceAdd, ldI, ldL, ldA, st1, st2, okS, List.getElem?_cons_zero, List.getElem?_cons_succ, List.length_cons, List.length_nil, List.set_cons_zero, List.set_cons_succ, callP, callF, popN, ct, Value.category, cI, List.getD_cons_zero, List.getD_cons_succ, and_self, and_true, true_and, Nat.zero_le, Nat.reduceLeDiff, Nat.add_zero, Nat.zero_add, List.nil_append, List.cons_append, Option.toList_some, Option.toList_none, List.append_nil, hset_ss, true_or, or_true, eq_self, beq_self_eq_true, List.drop_succ_cons, List.drop_zero, swT, swL, hset_ap, not_true_eq_false, not_false_eq_true, true_implies, false_implies, implies_true, Int32.reduceLE, Int32.reduceLT, Int32.reduceAdd, Int32.reduceSub, Int32.reduceOfInt, Int32.reduceToNatClampNeg, i10, i01, Nat.add_left_cancel_iff, Nat.left_eq_add, Nat.add_eq_left, cdX11_write, F1, m.o, m.a1, i_cl (show s < 2147483648 by omega), r.sz hs hf, r.nr, ix3, e]
        repeat refine ⟨vp_in_nI (by omega) (by omega), ?_⟩
        rw [show mnN (M.nr * 3) (M.sz s) = 3 * M.nr by unfold mnN; rw [if_pos c2]; omega] at start
        exact start
      · have e : nI (M.sz s) ≤ nI (3 * M.nr) := by rw [i_le (by omega) (by omega)]; omega
        refine go_ok okF1 (C := cdX11_write) (by rfl) [58] 40 (by exact Nat.le_of_ble_eq_true rfl) ?_
        simp (maxSteps := 2000000) only [go, stp, inS, ↓reduceIte, Bool.false_eq_true, Nat.reduceLT, Nat.reduceEqDiff, Nat.reduceAdd, ldI, ldL, ldA, st1, st2, okS, List.getElem?_cons_zero, List.getElem?_cons_succ, List.length_cons, List.length_nil, List.set_cons_zero, List.set_cons_succ, callP, callF, popN, ct, Value.category, cI, List.getD_cons_zero, List.getD_cons_succ, and_self, and_true, true_and, Nat.zero_le, Nat.reduceLeDiff, Nat.add_zero, Nat.zero_add, List.nil_append, List.cons_append, Option.toList_some, Option.toList_none, List.append_nil, hset_ss, true_or, or_true, eq_self, beq_self_eq_true, List.drop_succ_cons, List.drop_zero, swT, swL, hset_ap, not_true_eq_false, not_false_eq_true, true_implies, false_implies, implies_true, Int32.reduceLE, Int32.reduceLT, Int32.reduceAdd, Int32.reduceSub, Int32.reduceOfInt, Int32.reduceToNatClampNeg, i10, i01, Nat.add_left_cancel_iff, Nat.left_eq_add, Nat.add_eq_left, cdX11_write, F1, m.o, m.a1, i_cl (show s < 2147483648 by omega), r.sz hs hf, r.nr, ix3, e]
        repeat refine ⟨vp_in_nI (by omega) (by omega), ?_⟩
        rw [show mnN (M.nr * 3) (M.sz s) = M.sz s by unfold mnN; rw [if_neg c2]] at start
        exact start
    · have hf : M.fm s = -1 := (fmn ok hs).mp (i_nle.mp c1)
      rw [if_pos hf] at hq
      refine D_met m0 (fun h' m' hO => ?_)
      refine go_ok okF1 (C := cdX11_write) (by rfl) [] 40 (by exact Nat.le_of_ble_eq_true rfl) ?_
      simp (maxSteps := 2000000) only [go, stp, inS, ↓reduceIte, Bool.false_eq_true, Nat.reduceLT, Nat.reduceEqDiff, Nat.reduceAdd, ldI, ldL, ldA, st1, st2, okS, List.getElem?_cons_zero, List.getElem?_cons_succ, List.length_cons, List.length_nil, List.set_cons_zero, List.set_cons_succ, callP, callF, popN, ct, Value.category, cI, List.getD_cons_zero, List.getD_cons_succ, and_self, and_true, true_and, Nat.zero_le, Nat.reduceLeDiff, Nat.add_zero, Nat.zero_add, List.nil_append, List.cons_append, Option.toList_some, Option.toList_none, List.append_nil, hset_ss, true_or, or_true, eq_self, beq_self_eq_true, List.drop_succ_cons, List.drop_zero, swT, swL, hset_ap, not_true_eq_false, not_false_eq_true, true_implies, false_implies, implies_true, Int32.reduceLE, Int32.reduceLT, Int32.reduceAdd, Int32.reduceSub, Int32.reduceOfInt, Int32.reduceToNatClampNeg, i10, i01, Nat.add_left_cancel_iff, Nat.left_eq_add, Nat.add_eq_left, cdX11_write, F1]
      exact hq h' m' hO
  · rw [if_neg hx] at hq
    refine go_ok okF1 (C := cdX11_write) (by rfl) [] 40 (by exact Nat.le_of_ble_eq_true rfl) ?_
    simp (maxSteps := 2000000) only [go, stp, inS, ↓reduceIte, Bool.false_eq_true, Nat.reduceLT, Nat.reduceEqDiff, Nat.reduceAdd, ldI, ldL, ldA, st1, st2, okS, List.getElem?_cons_zero, List.getElem?_cons_succ, List.length_cons, List.length_nil, List.set_cons_zero, List.set_cons_succ, callP, callF, popN, ct, Value.category, cI, List.getD_cons_zero, List.getD_cons_succ, and_self, and_true, true_and, Nat.zero_le, Nat.reduceLeDiff, Nat.add_zero, Nat.zero_add, List.nil_append, List.cons_append, Option.toList_some, Option.toList_none, List.append_nil, hset_ss, true_or, or_true, eq_self, beq_self_eq_true, List.drop_succ_cons, List.drop_zero, swT, swL, hset_ap, not_true_eq_false, not_false_eq_true, true_implies, false_implies, implies_true, Int32.reduceLE, Int32.reduceLT, Int32.reduceAdd, Int32.reduceSub, Int32.reduceOfInt, Int32.reduceToNatClampNeg, i10, i01, Nat.add_left_cancel_iff, Nat.left_eq_add, Nat.add_eq_left, cdX11_write, F1, eq_false hx]
    exact hq h m0 sOff.rf
theorem apM_ok {x y w : Int32} (ok : MOk M) (hx : okV x) (hy : okV y) (hw : okV w) (h8 : M.nr < 8) : MOk (apM M x y w) := by
  refine ⟨by show M.nr + 1 ≤ 8; omega, fun q hq => ?_, ok.ln, ok.pi, ok.pr, ok.ru, ok.fa, ok.p8, ok.pn, ok.ps, ok.sz, ok.fm, ok.it⟩
  have hq : q < (M.nr + 1) * 3 := hq
  show okV (upd3 M.f (M.nr * 3) x y w q)
  unfold upd3
  by_cases q2 : q = M.nr * 3 + 2
  · subst q2; rw [pk_us]; exact hw
  · rw [pk_un q2]
    by_cases q1 : q = M.nr * 3 + 1
    · subst q1; rw [pk_us]; exact hy
    · rw [pk_un q1]
      by_cases q0 : q = M.nr * 3
      · subst q0; rw [pk_us]; exact hx
      · rw [pk_un q0]; exact ok.cv q (by omega)
theorem okL_t {v : Int64} (h : okL v) : okV v.toInt32 := by
  rcases h with rfl | ⟨h1, h2⟩
  · left; decide
  · right
    rw [Int64.le_iff_toInt_le] at h1 h2
    rw [show (-9 : Int64).toInt = -9 from rfl] at h1
    rw [show (9 : Int64).toInt = 9 from rfl] at h2
    rw [Int32.le_iff_toInt_le, Int32.le_iff_toInt_le, show (-9 : Int32).toInt = -9 from rfl, show (9 : Int32).toInt = 9 from rfl, Int64.toInt_toInt32, Int.bmod_eq_of_le (by omega) (by omega)]
    omega
set_option maxRecDepth 100000 in
set_option maxHeartbeats 400000 in
theorem D_read {x : Int32} (m : MI h M) (ok : MOk M) (hq : ∀ h', MI h' (stRead M x).2 → sOff h h' 52 80 → Q (some (.int (stRead M x).1)) n h') : Ok 160 [.ref 52, .int x] n h Q := by
  unfold stRead at hq
  have m0 := m
  obtain ⟨c, a, l, m, r⟩ := m
  refine ok_of kMX11_read kCX11_read (Nat.le_of_ble_eq_true rfl) (fun z => ?_)
  change A z _ _ 0 0 _ 0 [some (.ref 52), some (.int x), none, none, none] [] _
  by_cases hx : 0 ≤ x ∧ x < 4
  · obtain ⟨s, hs, rfl⟩ := i_of (n := 4) (by omega) (i_nlt.mpr hx.1) hx.2
    rw [if_pos hx, i_cl (show s < 2147483648 by omega)] at hq
    have hsz := ok.sz s hs
    refine go_ok okF1 (C := cdX11_read) (by rfl) [29] 40 (by exact Nat.le_of_ble_eq_true rfl) ?_
    simp (maxSteps := 2000000) only [go, stp, inS, ↓reduceIte, Bool.false_eq_true, Nat.reduceLT, Nat.reduceEqDiff, Nat.reduceAdd, ldI, ldL, ldA, st1, st2, okS, List.getElem?_cons_zero, List.getElem?_cons_succ, List.length_cons, List.length_nil, List.set_cons_zero, List.set_cons_succ, callP, callF, popN, ct, Value.category, cI, List.getD_cons_zero, List.getD_cons_succ, and_self, and_true, true_and, Nat.zero_le, Nat.reduceLeDiff, Nat.add_zero, Nat.zero_add, List.nil_append, List.cons_append, Option.toList_some, Option.toList_none, List.append_nil, hset_ss, true_or, or_true, eq_self, beq_self_eq_true, List.drop_succ_cons, List.drop_zero, swT, swL, hset_ap, not_true_eq_false, not_false_eq_true, true_implies, false_implies, implies_true, Int32.reduceLE, Int32.reduceLT, Int32.reduceAdd, Int32.reduceSub, Int32.reduceOfInt, Int32.reduceToNatClampNeg, i10, i01, Nat.add_left_cancel_iff, Nat.left_eq_add, Nat.add_eq_left, cdX11_read, F1, eq_true hx, m.o, m.a0, i_cl (show s < 2147483648 by omega), r.fm hs]
    refine ⟨vp_in_nI (by omega) (by omega), fun c1 => ?_, fun c1 => ?_⟩
    · have hf : ¬ M.fm s = -1 := fun q => absurd c1 (i_nle.mpr ((fmn ok hs).mpr q))
      rw [if_neg hf] at hq
      have loop : ∀ q i (h' : aH) (M' : MS) (g : Option Value), i + q = 17 → 3 * i ≤ M.sz s + 2 → MI h' M' → MOk M' → M'.fm s = M.fm s → M'.sz s = M.sz s → rdF s 17 0 M = rdF s q i M' → sOff h h' 52 80 → A z 160 n 0 0 h' 29 [some (.ref 52), some (.int (nI s)), some (.int (nI i)), some (.int 1), g] [] Q := by
        intro q
        induction q with
        | zero => intro i h' M' g hi hz; omega
        | succ q ih =>
          intro i h' M' g hi hz mi oki ef es er hO
          have mi0 := mi
          obtain ⟨c', a', l', m', r'⟩ := mi
          have hf' : ¬ M'.fm s = -1 := by rw [ef]; exact hf
          rw [er, rdF] at hq
          have i3 : nI (3 * i) + (3 : Int32) = nI (3 * i + 3) := nI_add _ 3
          by_cases c2 : 3 * i + 3 ≤ M'.sz s
          · have e : ¬ nI (M'.sz s) < nI (3 * i + 3) := by rw [i_lt (by omega) (by omega)]; omega
            refine go_ok okF1 (C := cdX11_read) (by rfl) [] 60 (by exact Nat.le_of_ble_eq_true rfl) ?_
            simp (maxSteps := 2000000) only [go, stp, inS, ↓reduceIte, Bool.false_eq_true, Nat.reduceLT, Nat.reduceEqDiff, Nat.reduceAdd, ldI, ldL, ldA, st1, st2, okS, List.getElem?_cons_zero, List.getElem?_cons_succ, List.length_cons, List.length_nil, List.set_cons_zero, List.set_cons_succ, callP, callF, popN, ct, Value.category, cI, List.getD_cons_zero, List.getD_cons_succ, and_self, and_true, true_and, Nat.zero_le, Nat.reduceLeDiff, Nat.add_zero, Nat.zero_add, List.nil_append, List.cons_append, Option.toList_some, Option.toList_none, List.append_nil, hset_ss, true_or, or_true, eq_self, beq_self_eq_true, List.drop_succ_cons, List.drop_zero, swT, swL, hset_ap, not_true_eq_false, not_false_eq_true, true_implies, false_implies, implies_true, Int32.reduceLE, Int32.reduceLT, Int32.reduceAdd, Int32.reduceSub, Int32.reduceOfInt, Int32.reduceToNatClampNeg, i10, i01, Nat.add_left_cancel_iff, Nat.left_eq_add, Nat.add_eq_left, cdX11_read, F1, m'.o, m'.a1, m'.a2, i_cl (show s < 2147483648 by omega), r'.sz hs hf', i3, e, ix3, ix48, nI_1, ix2, i_cl (show 48 * s + 3 * i < 2147483648 by omega), i_cl (show 48 * s + 3 * i + 1 < 2147483648 by omega), i_cl (show 48 * s + 3 * i + 2 < 2147483648 by omega), r'.it hs hf' (show 3 * i < M'.sz s by omega), (show l' 2 (48 * s + 3 * i + 1) = M'.I s (3 * i + 1) from r'.it hs hf' (show 3 * i + 1 < M'.sz s by omega)), (show l' 2 (48 * s + 3 * i + 2) = M'.I s (3 * i + 2) from r'.it hs hf' (show 3 * i + 2 < M'.sz s by omega))]
            repeat refine ⟨vp_in_nI (by omega) (by omega), ?_⟩
            refine D_adds mi0 oki (fun ek => ?_) (fun ek e8 => ?_) (fun ek e8 h2 m2 hO2 => ?_)
            · refine go_ok okF1 (C := cdX11_read) (by rfl) [] 60 (by exact Nat.le_of_ble_eq_true rfl) ?_
              simp (maxSteps := 2000000) only [go, stp, inS, ↓reduceIte, Bool.false_eq_true, Nat.reduceLT, Nat.reduceEqDiff, Nat.reduceAdd, ldI, ldL, ldA, st1, st2, okS, List.getElem?_cons_zero, List.getElem?_cons_succ, List.length_cons, List.length_nil, List.set_cons_zero, List.set_cons_succ, callP, callF, popN, ct, Value.category, cI, List.getD_cons_zero, List.getD_cons_succ, and_self, and_true, true_and, Nat.zero_le, Nat.reduceLeDiff, Nat.add_zero, Nat.zero_add, List.nil_append, List.cons_append, Option.toList_some, Option.toList_none, List.append_nil, hset_ss, true_or, or_true, eq_self, beq_self_eq_true, List.drop_succ_cons, List.drop_zero, swT, swL, hset_ap, not_true_eq_false, not_false_eq_true, true_implies, false_implies, implies_true, Int32.reduceLE, Int32.reduceLT, Int32.reduceAdd, Int32.reduceSub, Int32.reduceOfInt, Int32.reduceToNatClampNeg, i10, i01, Nat.add_left_cancel_iff, Nat.left_eq_add, Nat.add_eq_left, cdX11_read, F1, Int32.add_zero]
              rw [if_neg (fun w => ek ⟨w.2.1, w.2.2.1, w.2.2.2.1⟩)] at hq
              exact hq h' mi0 hO
            · refine go_ok okF1 (C := cdX11_read) (by rfl) [] 60 (by exact Nat.le_of_ble_eq_true rfl) ?_
              simp (maxSteps := 2000000) only [go, stp, inS, ↓reduceIte, Bool.false_eq_true, Nat.reduceLT, Nat.reduceEqDiff, Nat.reduceAdd, ldI, ldL, ldA, st1, st2, okS, List.getElem?_cons_zero, List.getElem?_cons_succ, List.length_cons, List.length_nil, List.set_cons_zero, List.set_cons_succ, callP, callF, popN, ct, Value.category, cI, List.getD_cons_zero, List.getD_cons_succ, and_self, and_true, true_and, Nat.zero_le, Nat.reduceLeDiff, Nat.add_zero, Nat.zero_add, List.nil_append, List.cons_append, Option.toList_some, Option.toList_none, List.append_nil, hset_ss, true_or, or_true, eq_self, beq_self_eq_true, List.drop_succ_cons, List.drop_zero, swT, swL, hset_ap, not_true_eq_false, not_false_eq_true, true_implies, false_implies, implies_true, Int32.reduceLE, Int32.reduceLT, Int32.reduceAdd, Int32.reduceSub, Int32.reduceOfInt, Int32.reduceToNatClampNeg, i10, i01, Nat.add_left_cancel_iff, Nat.left_eq_add, Nat.add_eq_left, cdX11_read, F1, Int32.add_zero]
              rw [if_neg (fun w => e8 w.2.2.2.2)] at hq
              exact hq h' mi0 hO
            · have hn0 : ¬ nI M'.nr < 0 := i_nn (by omega)
              refine go_ok okF1 (C := cdX11_read) (by rfl) [29] 60 (by exact Nat.le_of_ble_eq_true rfl) ?_
              simp (maxSteps := 2000000) only [go, stp, inS, ↓reduceIte, Bool.false_eq_true, Nat.reduceLT, Nat.reduceEqDiff, Nat.reduceAdd, ldI, ldL, ldA, st1, st2, okS, List.getElem?_cons_zero, List.getElem?_cons_succ, List.length_cons, List.length_nil, List.set_cons_zero, List.set_cons_succ, callP, callF, popN, ct, Value.category, cI, List.getD_cons_zero, List.getD_cons_succ, and_self, and_true, true_and, Nat.zero_le, Nat.reduceLeDiff, Nat.add_zero, Nat.zero_add, List.nil_append, List.cons_append, Option.toList_some, Option.toList_none, List.append_nil, hset_ss, true_or, or_true, eq_self, beq_self_eq_true, List.drop_succ_cons, List.drop_zero, swT, swL, hset_ap, not_true_eq_false, not_false_eq_true, true_implies, false_implies, implies_true, Int32.reduceLE, Int32.reduceLT, Int32.reduceAdd, Int32.reduceSub, Int32.reduceOfInt, Int32.reduceToNatClampNeg, i10, i01, Nat.add_left_cancel_iff, Nat.left_eq_add, Nat.add_eq_left, cdX11_read, F1, hn0, nI_1]
              rw [if_pos ⟨c2, ek.1, ek.2.1, ek.2.2, e8⟩] at hq
              refine ih (i + 1) h2 _ _ (by omega) (by omega) m2 (apM_ok oki (okL_t ek.1) (okL_t ek.2.1) (okL_t ek.2.2) e8) ef es ?_ (hO.tr hO2)
              rw [er, rdF, if_pos ⟨c2, ek.1, ek.2.1, ek.2.2, e8⟩]
          · have e : nI (M'.sz s) < nI (3 * i + 3) := by rw [i_lt (by omega) (by omega)]; omega
            refine go_ok okF1 (C := cdX11_read) (by rfl) [] 60 (by exact Nat.le_of_ble_eq_true rfl) ?_
            simp (maxSteps := 2000000) only [go, stp, inS, ↓reduceIte, Bool.false_eq_true, Nat.reduceLT, Nat.reduceEqDiff, Nat.reduceAdd, ldI, ldL, ldA, st1, st2, okS, List.getElem?_cons_zero, List.getElem?_cons_succ, List.length_cons, List.length_nil, List.set_cons_zero, List.set_cons_succ, callP, callF, popN, ct, Value.category, cI, List.getD_cons_zero, List.getD_cons_succ, and_self, and_true, true_and, Nat.zero_le, Nat.reduceLeDiff, Nat.add_zero, Nat.zero_add, List.nil_append, List.cons_append, Option.toList_some, Option.toList_none, List.append_nil, hset_ss, true_or, or_true, eq_self, beq_self_eq_true, List.drop_succ_cons, List.drop_zero, swT, swL, hset_ap, not_true_eq_false, not_false_eq_true, true_implies, false_implies, implies_true, Int32.reduceLE, Int32.reduceLT, Int32.reduceAdd, Int32.reduceSub, Int32.reduceOfInt, Int32.reduceToNatClampNeg, i10, i01, Nat.add_left_cancel_iff, Nat.left_eq_add, Nat.add_eq_left, cdX11_read, F1, m'.o, m'.a1, i_cl (show s < 2147483648 by omega), r'.sz hs hf', ix3, i3, e]
            repeat refine ⟨vp_in_nI (by omega) (by omega), ?_⟩
            rw [if_neg (fun w => c2 w.1)] at hq
            exact hq h' mi0 hO
      exact loop 17 0 h M _ (by omega) (by omega) m0 ok rfl rfl rfl sOff.rf
    · have hf : M.fm s = -1 := (fmn ok hs).mp (i_nle.mp c1)
      rw [if_pos hf] at hq
      refine D_met m0 (fun h' m' hO => ?_)
      refine go_ok okF1 (C := cdX11_read) (by rfl) [] 40 (by exact Nat.le_of_ble_eq_true rfl) ?_
      simp (maxSteps := 2000000) only [go, stp, inS, ↓reduceIte, Bool.false_eq_true, Nat.reduceLT, Nat.reduceEqDiff, Nat.reduceAdd, ldI, ldL, ldA, st1, st2, okS, List.getElem?_cons_zero, List.getElem?_cons_succ, List.length_cons, List.length_nil, List.set_cons_zero, List.set_cons_succ, callP, callF, popN, ct, Value.category, cI, List.getD_cons_zero, List.getD_cons_succ, and_self, and_true, true_and, Nat.zero_le, Nat.reduceLeDiff, Nat.add_zero, Nat.zero_add, List.nil_append, List.cons_append, Option.toList_some, Option.toList_none, List.append_nil, hset_ss, true_or, or_true, eq_self, beq_self_eq_true, List.drop_succ_cons, List.drop_zero, swT, swL, hset_ap, not_true_eq_false, not_false_eq_true, true_implies, false_implies, implies_true, Int32.reduceLE, Int32.reduceLT, Int32.reduceAdd, Int32.reduceSub, Int32.reduceOfInt, Int32.reduceToNatClampNeg, i10, i01, Nat.add_left_cancel_iff, Nat.left_eq_add, Nat.add_eq_left, cdX11_read, F1]
      exact hq h' m' hO
  · rw [if_neg hx] at hq
    refine go_ok okF1 (C := cdX11_read) (by rfl) [] 40 (by exact Nat.le_of_ble_eq_true rfl) ?_
    simp (maxSteps := 2000000) only [go, stp, inS, ↓reduceIte, Bool.false_eq_true, Nat.reduceLT, Nat.reduceEqDiff, Nat.reduceAdd, ldI, ldL, ldA, st1, st2, okS, List.getElem?_cons_zero, List.getElem?_cons_succ, List.length_cons, List.length_nil, List.set_cons_zero, List.set_cons_succ, callP, callF, popN, ct, Value.category, cI, List.getD_cons_zero, List.getD_cons_succ, and_self, and_true, true_and, Nat.zero_le, Nat.reduceLeDiff, Nat.add_zero, Nat.zero_add, List.nil_append, List.cons_append, Option.toList_some, Option.toList_none, List.append_nil, hset_ss, true_or, or_true, eq_self, beq_self_eq_true, List.drop_succ_cons, List.drop_zero, swT, swL, hset_ap, not_true_eq_false, not_false_eq_true, true_implies, false_implies, implies_true, Int32.reduceLE, Int32.reduceLT, Int32.reduceAdd, Int32.reduceSub, Int32.reduceOfInt, Int32.reduceToNatClampNeg, i10, i01, Nat.add_left_cancel_iff, Nat.left_eq_add, Nat.add_eq_left, cdX11_read, F1, eq_false hx]
    exact hq h m0 sOff.rf
set_option maxRecDepth 100000 in
set_option maxHeartbeats 400000 in
theorem D_copy {x i y j k : Int32} (m : MI h M) (ok : MOk M) (hq : ∀ h', MI h' (stCopy M x i y j k).2 → sOff h h' 52 80 → Q (some (.int (stCopy M x i y j k).1)) n h') : Ok 155 [.ref 52, .int x, .int i, .int y, .int j, .int k] n h Q := by
  unfold stCopy at hq
  have m0 := m
  obtain ⟨c, a, l, m, r⟩ := m
  refine ok_of kMX11_copy kCX11_copy (Nat.le_of_ble_eq_true rfl) (fun z => ?_)
  change A z _ _ 0 0 _ 0 [some (.ref 52), some (.int x), some (.int i), some (.int y), some (.int j), some (.int k), none] [] _
  by_cases hx : 0 ≤ x ∧ x < 4
  · by_cases hy : 0 ≤ y ∧ y < 4
    · obtain ⟨s, hs, rfl⟩ := i_of (n := 4) (by omega) (i_nlt.mpr hx.1) hx.2
      obtain ⟨t, ht, rfl⟩ := i_of (n := 4) (by omega) (i_nlt.mpr hy.1) hy.2
      rw [if_pos ⟨hx, hy⟩, i_cl (show s < 2147483648 by omega), i_cl (show t < 2147483648 by omega)] at hq
      have hsz := ok.sz s hs
      have htz := ok.sz t ht
      have fs := r.fm hs
      have ft := r.fm ht
      refine go_ok okF1 (C := cdX11_copy) (by rfl) [35, 41] 60 (by exact Nat.le_of_ble_eq_true rfl) ?_
      simp (maxSteps := 2000000) only [go, stp, inS, ↓reduceIte, Bool.false_eq_true, Nat.reduceLT, Nat.reduceEqDiff, Nat.reduceAdd, ldI, ldL, ldA, st1, st2, okS, List.getElem?_cons_zero, List.getElem?_cons_succ, List.length_cons, List.length_nil, List.set_cons_zero, List.set_cons_succ, callP, callF, popN, ct, Value.category, cI, List.getD_cons_zero, List.getD_cons_succ, and_self, and_true, true_and, Nat.zero_le, Nat.reduceLeDiff, Nat.add_zero, Nat.zero_add, List.nil_append, List.cons_append, Option.toList_some, Option.toList_none, List.append_nil, hset_ss, true_or, or_true, eq_self, beq_self_eq_true, List.drop_succ_cons, List.drop_zero, swT, swL, hset_ap, not_true_eq_false, not_false_eq_true, true_implies, false_implies, implies_true, Int32.reduceLE, Int32.reduceLT, Int32.reduceAdd, Int32.reduceSub, Int32.reduceOfInt, Int32.reduceToNatClampNeg, i10, i01, Nat.add_left_cancel_iff, Nat.left_eq_add, Nat.add_eq_left, cdX11_copy, F1, eq_true hx, eq_true hy, m.o, m.a0, i_cl (show s < 2147483648 by omega), i_cl (show t < 2147483648 by omega), fs, ft]
      have lost : M.fm s = -1 ∨ M.fm t = -1 → A z 155 n 0 0 h 35 [some (.ref 52), some (.int (nI s)), some (.int i), some (.int (nI t)), some (.int j), some (.int k), none] [] Q := fun hf => by
        refine go_ok okF1 (C := cdX11_copy) (by rfl) [] 60 (by exact Nat.le_of_ble_eq_true rfl) ?_
        simp (maxSteps := 2000000) only [go, stp, inS, ↓reduceIte, Bool.false_eq_true, Nat.reduceLT, Nat.reduceEqDiff, Nat.reduceAdd, ldI, ldL, ldA, st1, st2, okS, List.getElem?_cons_zero, List.getElem?_cons_succ, List.length_cons, List.length_nil, List.set_cons_zero, List.set_cons_succ, callP, callF, popN, ct, Value.category, cI, List.getD_cons_zero, List.getD_cons_succ, and_self, and_true, true_and, Nat.zero_le, Nat.reduceLeDiff, Nat.add_zero, Nat.zero_add, List.nil_append, List.cons_append, Option.toList_some, Option.toList_none, List.append_nil, hset_ss, true_or, or_true, eq_self, beq_self_eq_true, List.drop_succ_cons, List.drop_zero, swT, swL, hset_ap, not_true_eq_false, not_false_eq_true, true_implies, false_implies, implies_true, Int32.reduceLE, Int32.reduceLT, Int32.reduceAdd, Int32.reduceSub, Int32.reduceOfInt, Int32.reduceToNatClampNeg, i10, i01, Nat.add_left_cancel_iff, Nat.left_eq_add, Nat.add_eq_left, cdX11_copy, F1, m.o]
        refine D_met m0 (fun h' m' hO => ?_)
        refine go_ok okF1 (C := cdX11_copy) (by rfl) [] 60 (by exact Nat.le_of_ble_eq_true rfl) ?_
        simp (maxSteps := 2000000) only [go, stp, inS, ↓reduceIte, Bool.false_eq_true, Nat.reduceLT, Nat.reduceEqDiff, Nat.reduceAdd, ldI, ldL, ldA, st1, st2, okS, List.getElem?_cons_zero, List.getElem?_cons_succ, List.length_cons, List.length_nil, List.set_cons_zero, List.set_cons_succ, callP, callF, popN, ct, Value.category, cI, List.getD_cons_zero, List.getD_cons_succ, and_self, and_true, true_and, Nat.zero_le, Nat.reduceLeDiff, Nat.add_zero, Nat.zero_add, List.nil_append, List.cons_append, Option.toList_some, Option.toList_none, List.append_nil, hset_ss, true_or, or_true, eq_self, beq_self_eq_true, List.drop_succ_cons, List.drop_zero, swT, swL, hset_ap, not_true_eq_false, not_false_eq_true, true_implies, false_implies, implies_true, Int32.reduceLE, Int32.reduceLT, Int32.reduceAdd, Int32.reduceSub, Int32.reduceOfInt, Int32.reduceToNatClampNeg, i10, i01, Nat.add_left_cancel_iff, Nat.left_eq_add, Nat.add_eq_left, cdX11_copy, F1]
        rw [if_pos hf] at hq
        exact hq h' m' hO
      refine ⟨vp_in_nI (by omega) (by omega), fun c1 => lost (Or.inl ((fmn ok hs).mp c1)), fun c1 => ⟨vp_in_nI (by omega) (by omega), fun c2 => ?_, fun c2 => lost (Or.inr ((fmn ok ht).mp (i_nle.mp c2)))⟩⟩
      have hfs : ¬ M.fm s = -1 := fun q => c1 ((fmn ok hs).mpr q)
      have hft : ¬ M.fm t = -1 := fun q => absurd c2 (i_nle.mpr ((fmn ok ht).mpr q))
      rw [if_neg (fun q => q.elim hfs hft)] at hq
      by_cases hst : M.fm s = M.fm t
      · rw [if_pos hst] at hq
        have bad : ¬ (spn i k (M.sz s) ∧ spn j k (M.sz t)) → A z 155 n 0 0 h 111 [some (.ref 52), some (.int (nI s)), some (.int i), some (.int (nI t)), some (.int j), some (.int k), none] [] Q := fun hc => by
          refine go_ok okF1 (C := cdX11_copy) (by rfl) [] 60 (by exact Nat.le_of_ble_eq_true rfl) ?_
          simp (maxSteps := 2000000) only [go, stp, inS, ↓reduceIte, Bool.false_eq_true, Nat.reduceLT, Nat.reduceEqDiff, Nat.reduceAdd, ldI, ldL, ldA, st1, st2, okS, List.getElem?_cons_zero, List.getElem?_cons_succ, List.length_cons, List.length_nil, List.set_cons_zero, List.set_cons_succ, callP, callF, popN, ct, Value.category, cI, List.getD_cons_zero, List.getD_cons_succ, and_self, and_true, true_and, Nat.zero_le, Nat.reduceLeDiff, Nat.add_zero, Nat.zero_add, List.nil_append, List.cons_append, Option.toList_some, Option.toList_none, List.append_nil, hset_ss, true_or, or_true, eq_self, beq_self_eq_true, List.drop_succ_cons, List.drop_zero, swT, swL, hset_ap, not_true_eq_false, not_false_eq_true, true_implies, false_implies, implies_true, Int32.reduceLE, Int32.reduceLT, Int32.reduceAdd, Int32.reduceSub, Int32.reduceOfInt, Int32.reduceToNatClampNeg, i10, i01, Nat.add_left_cancel_iff, Nat.left_eq_add, Nat.add_eq_left, cdX11_copy, F1, m.o]
          refine D_met m0 (fun h' m' hO => ?_)
          refine go_ok okF1 (C := cdX11_copy) (by rfl) [] 60 (by exact Nat.le_of_ble_eq_true rfl) ?_
          simp (maxSteps := 2000000) only [go, stp, inS, ↓reduceIte, Bool.false_eq_true, Nat.reduceLT, Nat.reduceEqDiff, Nat.reduceAdd, ldI, ldL, ldA, st1, st2, okS, List.getElem?_cons_zero, List.getElem?_cons_succ, List.length_cons, List.length_nil, List.set_cons_zero, List.set_cons_succ, callP, callF, popN, ct, Value.category, cI, List.getD_cons_zero, List.getD_cons_succ, and_self, and_true, true_and, Nat.zero_le, Nat.reduceLeDiff, Nat.add_zero, Nat.zero_add, List.nil_append, List.cons_append, Option.toList_some, Option.toList_none, List.append_nil, hset_ss, true_or, or_true, eq_self, beq_self_eq_true, List.drop_succ_cons, List.drop_zero, swT, swL, hset_ap, not_true_eq_false, not_false_eq_true, true_implies, false_implies, implies_true, Int32.reduceLE, Int32.reduceLT, Int32.reduceAdd, Int32.reduceSub, Int32.reduceOfInt, Int32.reduceToNatClampNeg, i10, i01, Nat.add_left_cancel_iff, Nat.left_eq_add, Nat.add_eq_left, cdX11_copy, F1]
          rw [if_neg hc] at hq
          exact hq h' m' hO
        refine go_ok okF1 (C := cdX11_copy) (by rfl) [62] 60 (by exact Nat.le_of_ble_eq_true rfl) ?_
        simp (maxSteps := 2000000) only [go, stp, inS, ↓reduceIte, Bool.false_eq_true, Nat.reduceLT, Nat.reduceEqDiff, Nat.reduceAdd, ldI, ldL, ldA, st1, st2, okS, List.getElem?_cons_zero, List.getElem?_cons_succ, List.length_cons, List.length_nil, List.set_cons_zero, List.set_cons_succ, callP, callF, popN, ct, Value.category, cI, List.getD_cons_zero, List.getD_cons_succ, and_self, and_true, true_and, Nat.zero_le, Nat.reduceLeDiff, Nat.add_zero, Nat.zero_add, List.nil_append, List.cons_append, Option.toList_some, Option.toList_none, List.append_nil, hset_ss, true_or, or_true, eq_self, beq_self_eq_true, List.drop_succ_cons, List.drop_zero, swT, swL, hset_ap, not_true_eq_false, not_false_eq_true, true_implies, false_implies, implies_true, Int32.reduceLE, Int32.reduceLT, Int32.reduceAdd, Int32.reduceSub, Int32.reduceOfInt, Int32.reduceToNatClampNeg, i10, i01, Nat.add_left_cancel_iff, Nat.left_eq_add, Nat.add_eq_left, cdX11_copy, F1, m.o, m.a0, i_cl (show s < 2147483648 by omega), i_cl (show t < 2147483648 by omega), fs, ft, hst]
        repeat refine ⟨vp_in_nI (by omega) (by omega), ?_⟩
        by_cases hi : i < 0
        · refine go_ok okF1 (C := cdX11_copy) (by rfl) [111] 60 (by exact Nat.le_of_ble_eq_true rfl) ?_
          simp (maxSteps := 2000000) only [go, stp, inS, ↓reduceIte, Bool.false_eq_true, Nat.reduceLT, Nat.reduceEqDiff, Nat.reduceAdd, ldI, ldL, ldA, st1, st2, okS, List.getElem?_cons_zero, List.getElem?_cons_succ, List.length_cons, List.length_nil, List.set_cons_zero, List.set_cons_succ, callP, callF, popN, ct, Value.category, cI, List.getD_cons_zero, List.getD_cons_succ, and_self, and_true, true_and, Nat.zero_le, Nat.reduceLeDiff, Nat.add_zero, Nat.zero_add, List.nil_append, List.cons_append, Option.toList_some, Option.toList_none, List.append_nil, hset_ss, true_or, or_true, eq_self, beq_self_eq_true, List.drop_succ_cons, List.drop_zero, swT, swL, hset_ap, not_true_eq_false, not_false_eq_true, true_implies, false_implies, implies_true, Int32.reduceLE, Int32.reduceLT, Int32.reduceAdd, Int32.reduceSub, Int32.reduceOfInt, Int32.reduceToNatClampNeg, i10, i01, Nat.add_left_cancel_iff, Nat.left_eq_add, Nat.add_eq_left, cdX11_copy, F1, eq_true hi]
          exact bad (fun q => absurd hi (i_nlt.mpr q.1.1))
        by_cases hj : j < 0
        · refine go_ok okF1 (C := cdX11_copy) (by rfl) [111] 60 (by exact Nat.le_of_ble_eq_true rfl) ?_
          simp (maxSteps := 2000000) only [go, stp, inS, ↓reduceIte, Bool.false_eq_true, Nat.reduceLT, Nat.reduceEqDiff, Nat.reduceAdd, ldI, ldL, ldA, st1, st2, okS, List.getElem?_cons_zero, List.getElem?_cons_succ, List.length_cons, List.length_nil, List.set_cons_zero, List.set_cons_succ, callP, callF, popN, ct, Value.category, cI, List.getD_cons_zero, List.getD_cons_succ, and_self, and_true, true_and, Nat.zero_le, Nat.reduceLeDiff, Nat.add_zero, Nat.zero_add, List.nil_append, List.cons_append, Option.toList_some, Option.toList_none, List.append_nil, hset_ss, true_or, or_true, eq_self, beq_self_eq_true, List.drop_succ_cons, List.drop_zero, swT, swL, hset_ap, not_true_eq_false, not_false_eq_true, true_implies, false_implies, implies_true, Int32.reduceLE, Int32.reduceLT, Int32.reduceAdd, Int32.reduceSub, Int32.reduceOfInt, Int32.reduceToNatClampNeg, i10, i01, Nat.add_left_cancel_iff, Nat.left_eq_add, Nat.add_eq_left, cdX11_copy, F1, hi, eq_true hj]
          exact bad (fun q => absurd hj (i_nlt.mpr q.2.1))
        by_cases hk : k < 0
        · refine go_ok okF1 (C := cdX11_copy) (by rfl) [111] 60 (by exact Nat.le_of_ble_eq_true rfl) ?_
          simp (maxSteps := 2000000) only [go, stp, inS, ↓reduceIte, Bool.false_eq_true, Nat.reduceLT, Nat.reduceEqDiff, Nat.reduceAdd, ldI, ldL, ldA, st1, st2, okS, List.getElem?_cons_zero, List.getElem?_cons_succ, List.length_cons, List.length_nil, List.set_cons_zero, List.set_cons_succ, callP, callF, popN, ct, Value.category, cI, List.getD_cons_zero, List.getD_cons_succ, and_self, and_true, true_and, Nat.zero_le, Nat.reduceLeDiff, Nat.add_zero, Nat.zero_add, List.nil_append, List.cons_append, Option.toList_some, Option.toList_none, List.append_nil, hset_ss, true_or, or_true, eq_self, beq_self_eq_true, List.drop_succ_cons, List.drop_zero, swT, swL, hset_ap, not_true_eq_false, not_false_eq_true, true_implies, false_implies, implies_true, Int32.reduceLE, Int32.reduceLT, Int32.reduceAdd, Int32.reduceSub, Int32.reduceOfInt, Int32.reduceToNatClampNeg, i10, i01, Nat.add_left_cancel_iff, Nat.left_eq_add, Nat.add_eq_left, cdX11_copy, F1, hi, hj, eq_true hk]
          exact bad (fun q => absurd hk (i_nlt.mpr q.1.2.1))
        obtain ⟨i, hi2, rfl⟩ := nI_of hi
        obtain ⟨j, hj2, rfl⟩ := nI_of hj
        obtain ⟨k, hk2, rfl⟩ := nI_of hk
        have sp : ∀ b v, b < 2147483648 → v ≤ 48 → (spn (nI b) (nI k) v ↔ b + k ≤ v) := fun b v hb hv => by
          constructor
          · intro q
            obtain ⟨b', k', e1, e2, e3⟩ := spn_of hv q
            rw [i_eq (by omega) (by omega)] at e1 e2
            omega
          · intro q
            refine ⟨nI_pos' hb, nI_pos' hk2, (i_le (by omega) (by omega)).mpr (by omega), ?_⟩
            rw [pk_sub (by omega), i_le (by omega) (by omega)]; omega
        have el : ∀ b, b < 2147483648 → (nI b).toInt64 + (nI k).toInt64 = lN (b + k) := fun b hb => by rw [nI_l hb, nI_l hk2, lN_add]
        refine go_ok okF1 (C := cdX11_copy) (by rfl) [111, 117] 60 (by exact Nat.le_of_ble_eq_true rfl) ?_
        simp (maxSteps := 2000000) only [go, stp, inS, ↓reduceIte, Bool.false_eq_true, Nat.reduceLT, Nat.reduceEqDiff, Nat.reduceAdd, ldI, ldL, ldA, st1, st2, okS, List.getElem?_cons_zero, List.getElem?_cons_succ, List.length_cons, List.length_nil, List.set_cons_zero, List.set_cons_succ, callP, callF, popN, ct, Value.category, cI, List.getD_cons_zero, List.getD_cons_succ, and_self, and_true, true_and, Nat.zero_le, Nat.reduceLeDiff, Nat.add_zero, Nat.zero_add, List.nil_append, List.cons_append, Option.toList_some, Option.toList_none, List.append_nil, hset_ss, true_or, or_true, eq_self, beq_self_eq_true, List.drop_succ_cons, List.drop_zero, swT, swL, hset_ap, not_true_eq_false, not_false_eq_true, true_implies, false_implies, implies_true, Int32.reduceLE, Int32.reduceLT, Int32.reduceAdd, Int32.reduceSub, Int32.reduceOfInt, Int32.reduceToNatClampNeg, i10, i01, Nat.add_left_cancel_iff, Nat.left_eq_add, Nat.add_eq_left, cdX11_copy, F1, hi, hj, hk, m.o, m.a1, i_cl (show s < 2147483648 by omega), i_cl (show t < 2147483648 by omega), r.sz hs hfs, r.sz ht hft, el i hi2, el j hj2, lc_lt, lc_gt, lc_eq, nI_l (show M.sz s < 2147483648 by omega), nI_l (show M.sz t < 2147483648 by omega)]
        refine ⟨vp_in_nI (by omega) (by omega), fun c3 => bad (fun q => ?_), fun c3 => ⟨vp_in_nI (by omega) (by omega), fun c4 => ?_, fun c4 => bad (fun q => ?_)⟩⟩
        · have w1 := (sp i (M.sz s) hi2 hsz).mp q.1
          have w2 := (pk_lLT (by omega) (by omega)).mp c3
          omega
        · have w1 : ¬ M.sz s < i + k := fun w => c3 ((pk_lLT (by omega) (by omega)).mpr w)
          have w2 : ¬ M.sz t < j + k := fun w => absurd c4 (i_nle.mpr (by rw [lc_gt]; exact (pk_lLT (by omega) (by omega)).mpr w))
          rw [if_pos ⟨(sp i (M.sz s) hi2 hsz).mpr (by omega), (sp j (M.sz t) hj2 htz).mpr (by omega)⟩, i_cl hi2, i_cl hj2, i_cl hk2] at hq
          have loop2 : ∀ q w (h' : aH) (l' : Nat → Nat → Int64), w + q = k → MH h' c a l' → (∀ p, p < k → l' 3 p = M.I s (i + p)) → (∀ p, l' 2 p = if 48 * t + j ≤ p ∧ p < 48 * t + j + w then M.I s (i + (p - (48 * t + j))) else l 2 p) → sOff h h' 52 80 → A z 155 n 0 0 h' 157 [some (.ref 52), some (.int (nI s)), some (.int (nI i)), some (.int (nI t)), some (.int (nI j)), some (.int (nI k)), some (.int (nI w))] [] Q := by
            intro q
            induction q with
            | zero =>
              intro w h' l' hw m' h3 h2 hO
              obtain rfl : w = k := by omega
              refine go_ok okF1 (C := cdX11_copy) (by rfl) [] 60 (by exact Nat.le_of_ble_eq_true rfl) ?_
              simp (maxSteps := 2000000) only [go, stp, inS, ↓reduceIte, Bool.false_eq_true, Nat.reduceLT, Nat.reduceEqDiff, Nat.reduceAdd, ldI, ldL, ldA, st1, st2, okS, List.getElem?_cons_zero, List.getElem?_cons_succ, List.length_cons, List.length_nil, List.set_cons_zero, List.set_cons_succ, callP, callF, popN, ct, Value.category, cI, List.getD_cons_zero, List.getD_cons_succ, and_self, and_true, true_and, Nat.zero_le, Nat.reduceLeDiff, Nat.add_zero, Nat.zero_add, List.nil_append, List.cons_append, Option.toList_some, Option.toList_none, List.append_nil, hset_ss, true_or, or_true, eq_self, beq_self_eq_true, List.drop_succ_cons, List.drop_zero, swT, swL, hset_ap, not_true_eq_false, not_false_eq_true, true_implies, false_implies, implies_true, Int32.reduceLE, Int32.reduceLT, Int32.reduceAdd, Int32.reduceSub, Int32.reduceOfInt, Int32.reduceToNatClampNeg, i10, i01, Nat.add_left_cancel_iff, Nat.left_eq_add, Nat.add_eq_left, cdX11_copy, F1, (show nI w ≤ nI w from (i_le (by omega) (by omega)).mpr (by omega))]
              refine hq h' ⟨c, a, l', m', ?_⟩ hO
              have el : l' = fset l' 2 (l' 2) := by
                funext p
                by_cases e : p = 2
                · subst e; rw [fset_s]
                · rw [fset_n _ _ e]
              have e0 : mR (shM M t (tkF (M.fm t) (M.I t) (M.I s) j i w) (M.fm t) (M.sz t)) c a (fset l 2 (l' 2)) := by
                refine r.items ok hft ht (fun q hq => ?_) (fun q hq => ?_)
                · rw [h2]; unfold tkF
                  by_cases e : j ≤ q ∧ q < j + w
                  · rw [if_pos (by omega), if_pos e, show 48 * t + q - (48 * t + j) = q - j by omega, ← hst]
                    exact (ok.it s (i + (q - j)) hs (by omega)).symm
                  · rw [if_neg (by omega), if_neg e]; exact r.it ht hft hq
                · rw [h2, if_neg (by omega)]
              exact e0
            | succ q ih =>
              intro w h' l' hw m' h3 h2 hO
              have e : ¬ nI k ≤ nI w := by rw [i_le (by omega) (by omega)]; omega
              refine go_ok okF1 (C := cdX11_copy) (by rfl) [157] 60 (by exact Nat.le_of_ble_eq_true rfl) ?_
              simp (maxSteps := 2000000) only [go, stp, inS, ↓reduceIte, Bool.false_eq_true, Nat.reduceLT, Nat.reduceEqDiff, Nat.reduceAdd, ldI, ldL, ldA, st1, st2, okS, List.getElem?_cons_zero, List.getElem?_cons_succ, List.length_cons, List.length_nil, List.set_cons_zero, List.set_cons_succ, callP, callF, popN, ct, Value.category, cI, List.getD_cons_zero, List.getD_cons_succ, and_self, and_true, true_and, Nat.zero_le, Nat.reduceLeDiff, Nat.add_zero, Nat.zero_add, List.nil_append, List.cons_append, Option.toList_some, Option.toList_none, List.append_nil, hset_ss, true_or, or_true, eq_self, beq_self_eq_true, List.drop_succ_cons, List.drop_zero, swT, swL, hset_ap, not_true_eq_false, not_false_eq_true, true_implies, false_implies, implies_true, Int32.reduceLE, Int32.reduceLT, Int32.reduceAdd, Int32.reduceSub, Int32.reduceOfInt, Int32.reduceToNatClampNeg, i10, i01, Nat.add_left_cancel_iff, Nat.left_eq_add, Nat.add_eq_left, cdX11_copy, F1, e, m'.o, m'.a2, m'.a3, ix48, nI_add, i_cl (show 48 * t + j + w < 2147483648 by omega), i_cl (show w < 2147483648 by omega), nI_1]
              repeat refine ⟨vp_in_nI (by omega) (by omega), ?_⟩
              refine ih (w + 1) _ _ (by omega) (m'.s2 _) h3 (fun p => ?_) (hO.set (by omega) (by omega))
              show vp_updL (l' 2) (48 * t + j + w) (l' 3 w) p = _
              by_cases e2 : p = 48 * t + j + w
              · subst e2; rw [pk_uLs, if_pos (by omega), h3 w (by omega), show 48 * t + j + w - (48 * t + j) = w by omega]
              · rw [pk_uLn e2, h2]
                by_cases e3 : 48 * t + j ≤ p ∧ p < 48 * t + j + w
                · rw [if_pos e3, if_pos (by omega)]
                · rw [if_neg e3, if_neg (by omega)]
          have loop1 : ∀ q w (h' : aH) (l' : Nat → Nat → Int64), w + q = k → MH h' c a l' → (∀ p, p < w → l' 3 p = M.I s (i + p)) → l' 2 = l 2 → sOff h h' 52 80 → A z 155 n 0 0 h' 120 [some (.ref 52), some (.int (nI s)), some (.int (nI i)), some (.int (nI t)), some (.int (nI j)), some (.int (nI k)), some (.int (nI w))] [] Q := by
            intro q
            induction q with
            | zero =>
              intro w h' l' hw m' h3 h2 hO
              obtain rfl : w = k := by omega
              refine go_ok okF1 (C := cdX11_copy) (by rfl) [157] 60 (by exact Nat.le_of_ble_eq_true rfl) ?_
              simp (maxSteps := 2000000) only [go, stp, inS, ↓reduceIte, Bool.false_eq_true, Nat.reduceLT, Nat.reduceEqDiff, Nat.reduceAdd, ldI, ldL, ldA, st1, st2, okS, List.getElem?_cons_zero, List.getElem?_cons_succ, List.length_cons, List.length_nil, List.set_cons_zero, List.set_cons_succ, callP, callF, popN, ct, Value.category, cI, List.getD_cons_zero, List.getD_cons_succ, and_self, and_true, true_and, Nat.zero_le, Nat.reduceLeDiff, Nat.add_zero, Nat.zero_add, List.nil_append, List.cons_append, Option.toList_some, Option.toList_none, List.append_nil, hset_ss, true_or, or_true, eq_self, beq_self_eq_true, List.drop_succ_cons, List.drop_zero, swT, swL, hset_ap, not_true_eq_false, not_false_eq_true, true_implies, false_implies, implies_true, Int32.reduceLE, Int32.reduceLT, Int32.reduceAdd, Int32.reduceSub, Int32.reduceOfInt, Int32.reduceToNatClampNeg, i10, i01, Nat.add_left_cancel_iff, Nat.left_eq_add, Nat.add_eq_left, cdX11_copy, F1, (show nI w ≤ nI w from (i_le (by omega) (by omega)).mpr (by omega))]
              exact loop2 w 0 h' l' (by omega) m' h3 (fun p => by rw [if_neg (by omega), h2]) hO
            | succ q ih =>
              intro w h' l' hw m' h3 h2 hO
              have e : ¬ nI k ≤ nI w := by rw [i_le (by omega) (by omega)]; omega
              have ev : l' 2 (48 * s + i + w) = M.I s (i + w) := by rw [h2, Nat.add_assoc]; exact r.it hs hfs (by omega)
              refine go_ok okF1 (C := cdX11_copy) (by rfl) [120] 60 (by exact Nat.le_of_ble_eq_true rfl) ?_
              simp (maxSteps := 2000000) only [go, stp, inS, ↓reduceIte, Bool.false_eq_true, Nat.reduceLT, Nat.reduceEqDiff, Nat.reduceAdd, ldI, ldL, ldA, st1, st2, okS, List.getElem?_cons_zero, List.getElem?_cons_succ, List.length_cons, List.length_nil, List.set_cons_zero, List.set_cons_succ, callP, callF, popN, ct, Value.category, cI, List.getD_cons_zero, List.getD_cons_succ, and_self, and_true, true_and, Nat.zero_le, Nat.reduceLeDiff, Nat.add_zero, Nat.zero_add, List.nil_append, List.cons_append, Option.toList_some, Option.toList_none, List.append_nil, hset_ss, true_or, or_true, eq_self, beq_self_eq_true, List.drop_succ_cons, List.drop_zero, swT, swL, hset_ap, not_true_eq_false, not_false_eq_true, true_implies, false_implies, implies_true, Int32.reduceLE, Int32.reduceLT, Int32.reduceAdd, Int32.reduceSub, Int32.reduceOfInt, Int32.reduceToNatClampNeg, i10, i01, Nat.add_left_cancel_iff, Nat.left_eq_add, Nat.add_eq_left, cdX11_copy, F1, e, m'.o, m'.a2, m'.a3, ix48, nI_add, i_cl (show 48 * s + i + w < 2147483648 by omega), i_cl (show w < 2147483648 by omega), nI_1, ev]
              repeat refine ⟨vp_in_nI (by omega) (by omega), ?_⟩
              refine ih (w + 1) _ _ (by omega) (m'.s3 _) (fun p hp => ?_) h2 (hO.set (by omega) (by omega))
              show vp_updL (l' 3) w (M.I s (i + w)) p = _
              by_cases e2 : p = w
              · subst e2; rw [pk_uLs]
              · rw [pk_uLn e2]; exact h3 p (by omega)
          refine go_ok okF1 (C := cdX11_copy) (by rfl) [120] 60 (by exact Nat.le_of_ble_eq_true rfl) ?_
          simp (maxSteps := 2000000) only [go, stp, inS, ↓reduceIte, Bool.false_eq_true, Nat.reduceLT, Nat.reduceEqDiff, Nat.reduceAdd, ldI, ldL, ldA, st1, st2, okS, List.getElem?_cons_zero, List.getElem?_cons_succ, List.length_cons, List.length_nil, List.set_cons_zero, List.set_cons_succ, callP, callF, popN, ct, Value.category, cI, List.getD_cons_zero, List.getD_cons_succ, and_self, and_true, true_and, Nat.zero_le, Nat.reduceLeDiff, Nat.add_zero, Nat.zero_add, List.nil_append, List.cons_append, Option.toList_some, Option.toList_none, List.append_nil, hset_ss, true_or, or_true, eq_self, beq_self_eq_true, List.drop_succ_cons, List.drop_zero, swT, swL, hset_ap, not_true_eq_false, not_false_eq_true, true_implies, false_implies, implies_true, Int32.reduceLE, Int32.reduceLT, Int32.reduceAdd, Int32.reduceSub, Int32.reduceOfInt, Int32.reduceToNatClampNeg, i10, i01, Nat.add_left_cancel_iff, Nat.left_eq_add, Nat.add_eq_left, cdX11_copy, F1]
          exact loop1 k 0 h l (by omega) m (fun p hp => absurd hp (by omega)) rfl sOff.rf
        · have w1 := (sp j (M.sz t) hj2 htz).mp q.2
          exact c4 (i_nlt.mp (by rw [lc_gt]; exact fun w => absurd ((pk_lLT (by omega) (by omega)).mp w) (by omega)))
      · rw [if_neg hst] at hq
        refine go_ok okF1 (C := cdX11_copy) (by rfl) [] 60 (by exact Nat.le_of_ble_eq_true rfl) ?_
        simp (maxSteps := 2000000) only [go, stp, inS, ↓reduceIte, Bool.false_eq_true, Nat.reduceLT, Nat.reduceEqDiff, Nat.reduceAdd, ldI, ldL, ldA, st1, st2, okS, List.getElem?_cons_zero, List.getElem?_cons_succ, List.length_cons, List.length_nil, List.set_cons_zero, List.set_cons_succ, callP, callF, popN, ct, Value.category, cI, List.getD_cons_zero, List.getD_cons_succ, and_self, and_true, true_and, Nat.zero_le, Nat.reduceLeDiff, Nat.add_zero, Nat.zero_add, List.nil_append, List.cons_append, Option.toList_some, Option.toList_none, List.append_nil, hset_ss, true_or, or_true, eq_self, beq_self_eq_true, List.drop_succ_cons, List.drop_zero, swT, swL, hset_ap, not_true_eq_false, not_false_eq_true, true_implies, false_implies, implies_true, Int32.reduceLE, Int32.reduceLT, Int32.reduceAdd, Int32.reduceSub, Int32.reduceOfInt, Int32.reduceToNatClampNeg, i10, i01, Nat.add_left_cancel_iff, Nat.left_eq_add, Nat.add_eq_left, cdX11_copy, F1, m.o, m.a0, i_cl (show s < 2147483648 by omega), i_cl (show t < 2147483648 by omega), fs, ft, hst]
        repeat refine ⟨vp_in_nI (by omega) (by omega), ?_⟩
        refine D_met m0 (fun h' m' hO => ?_)
        refine go_ok okF1 (C := cdX11_copy) (by rfl) [] 60 (by exact Nat.le_of_ble_eq_true rfl) ?_
        simp (maxSteps := 2000000) only [go, stp, inS, ↓reduceIte, Bool.false_eq_true, Nat.reduceLT, Nat.reduceEqDiff, Nat.reduceAdd, ldI, ldL, ldA, st1, st2, okS, List.getElem?_cons_zero, List.getElem?_cons_succ, List.length_cons, List.length_nil, List.set_cons_zero, List.set_cons_succ, callP, callF, popN, ct, Value.category, cI, List.getD_cons_zero, List.getD_cons_succ, and_self, and_true, true_and, Nat.zero_le, Nat.reduceLeDiff, Nat.add_zero, Nat.zero_add, List.nil_append, List.cons_append, Option.toList_some, Option.toList_none, List.append_nil, hset_ss, true_or, or_true, eq_self, beq_self_eq_true, List.drop_succ_cons, List.drop_zero, swT, swL, hset_ap, not_true_eq_false, not_false_eq_true, true_implies, false_implies, implies_true, Int32.reduceLE, Int32.reduceLT, Int32.reduceAdd, Int32.reduceSub, Int32.reduceOfInt, Int32.reduceToNatClampNeg, i10, i01, Nat.add_left_cancel_iff, Nat.left_eq_add, Nat.add_eq_left, cdX11_copy, F1]
        exact hq h' m' hO
    · rw [if_neg (fun q => hy q.2)] at hq
      refine go_ok okF1 (C := cdX11_copy) (by rfl) [] 60 (by exact Nat.le_of_ble_eq_true rfl) ?_
      simp (maxSteps := 2000000) only [go, stp, inS, ↓reduceIte, Bool.false_eq_true, Nat.reduceLT, Nat.reduceEqDiff, Nat.reduceAdd, ldI, ldL, ldA, st1, st2, okS, List.getElem?_cons_zero, List.getElem?_cons_succ, List.length_cons, List.length_nil, List.set_cons_zero, List.set_cons_succ, callP, callF, popN, ct, Value.category, cI, List.getD_cons_zero, List.getD_cons_succ, and_self, and_true, true_and, Nat.zero_le, Nat.reduceLeDiff, Nat.add_zero, Nat.zero_add, List.nil_append, List.cons_append, Option.toList_some, Option.toList_none, List.append_nil, hset_ss, true_or, or_true, eq_self, beq_self_eq_true, List.drop_succ_cons, List.drop_zero, swT, swL, hset_ap, not_true_eq_false, not_false_eq_true, true_implies, false_implies, implies_true, Int32.reduceLE, Int32.reduceLT, Int32.reduceAdd, Int32.reduceSub, Int32.reduceOfInt, Int32.reduceToNatClampNeg, i10, i01, Nat.add_left_cancel_iff, Nat.left_eq_add, Nat.add_eq_left, cdX11_copy, F1, eq_true hx, eq_false hy]
      exact hq h m0 sOff.rf
  · rw [if_neg (fun q => hx q.1)] at hq
    refine go_ok okF1 (C := cdX11_copy) (by rfl) [] 60 (by exact Nat.le_of_ble_eq_true rfl) ?_
    simp (maxSteps := 2000000) only [go, stp, inS, ↓reduceIte, Bool.false_eq_true, Nat.reduceLT, Nat.reduceEqDiff, Nat.reduceAdd, ldI, ldL, ldA, st1, st2, okS, List.getElem?_cons_zero, List.getElem?_cons_succ, List.length_cons, List.length_nil, List.set_cons_zero, List.set_cons_succ, callP, callF, popN, ct, Value.category, cI, List.getD_cons_zero, List.getD_cons_succ, and_self, and_true, true_and, Nat.zero_le, Nat.reduceLeDiff, Nat.add_zero, Nat.zero_add, List.nil_append, List.cons_append, Option.toList_some, Option.toList_none, List.append_nil, hset_ss, true_or, or_true, eq_self, beq_self_eq_true, List.drop_succ_cons, List.drop_zero, swT, swL, hset_ap, not_true_eq_false, not_false_eq_true, true_implies, false_implies, implies_true, Int32.reduceLE, Int32.reduceLT, Int32.reduceAdd, Int32.reduceSub, Int32.reduceOfInt, Int32.reduceToNatClampNeg, i10, i01, Nat.add_left_cancel_iff, Nat.left_eq_add, Nat.add_eq_left, cdX11_copy, F1, eq_false hx]
    exact hq h m0 sOff.rf
end MD2
