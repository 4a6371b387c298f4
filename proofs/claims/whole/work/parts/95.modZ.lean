
/-! the model: laying out -/
theorem spl_1 {G F : Nat → Int32} {k o j : Nat} : upd (spl G k F o j) (k + j) (F (o + j)) = spl G k F o (j + 1) := by
  funext q
  by_cases e : q = k + j
  · subst e; rw [pk_us, spl_in (by omega)]
  · rw [pk_un e]
    by_cases e2 : k ≤ q ∧ q < k + j
    · obtain ⟨i, rfl⟩ : ∃ i, q = k + i := ⟨q - k, by omega⟩
      rw [spl_in (by omega), spl_in (by omega)]
    · unfold spl; rw [if_neg e2, if_neg (by omega)]
theorem spl_0 {G F : Nat → Int32} {k o : Nat} : spl G k F o 0 = G := by funext q; unfold spl; rw [if_neg (by omega)]
section MZ
variable {n : Nat} {h : aH} {Q : aQ} {M : MS} {c : Nat → Int32} {a : Nat → Nat → Int32} {l : Nat → Nat → Int64} {G L R F FL FR' : Nat → Int32} {N ac : Nat}
set_option maxRecDepth 100000 in
set_option maxHeartbeats 400000 in
theorem D_addsSign {k : Nat} {s : Int32} (m : MH h c a l) (hk : c 21 = nI k) (h100 : k < 100) (hq : ∀ h', MH h' (upd c 21 (nI (k + 1))) (fset a 22 (upd (a 22) k s)) l → sOff h h' 52 80 → Q none n h') : Ok 180 [.ref 52, .int s] n h Q := by
  refine ok_of kMX11_addsSign kCX11_addsSign (Nat.le_of_ble_eq_true rfl) (fun z => ?_)
  change A z _ _ 0 0 _ 0 [some (.ref 52), some (.int s)] [] _
  refine go_ok okF1 (C := cdX11_addsSign) (by rfl) [] 40 (by exact Nat.le_of_ble_eq_true rfl) ?_
  simp (maxSteps := 2000000) only [go, stp, inS, ↓reduceIte, Bool.false_eq_true, Nat.reduceLT, Nat.reduceEqDiff, Nat.reduceAdd, ldI, ldL, ldA, st1, st2, okS, List.getElem?_cons_zero, List.getElem?_cons_succ, List.length_cons, List.length_nil, List.set_cons_zero, List.set_cons_succ, callP, callF, popN, ct, Value.category, cI, List.getD_cons_zero, List.getD_cons_succ, and_self, and_true, true_and, Nat.zero_le, Nat.reduceLeDiff, Nat.add_zero, Nat.zero_add, List.nil_append, List.cons_append, Option.toList_some, Option.toList_none, List.append_nil, hset_ss, true_or, or_true, eq_self, beq_self_eq_true, List.drop_succ_cons, List.drop_zero, swT, swL, hset_ap, not_true_eq_false, not_false_eq_true, true_implies, false_implies, implies_true, Int32.reduceLE, Int32.reduceLT, Int32.reduceAdd, Int32.reduceSub, Int32.reduceOfInt, Int32.reduceToNatClampNeg, i10, i01, Nat.add_left_cancel_iff, Nat.left_eq_add, Nat.add_eq_left, cdX11_addsSign, F1, m.o, m.a22, hk, i_cl (show k < 2147483648 by omega), nI_1]
  repeat refine ⟨vp_in_nI (by omega) (by omega), ?_⟩
  exact hq _ ((m.s22 (upd (a 22) k s)).sc (upd c 21 (nI (k + 1)))) ((sOff.rf.set (by omega) (by omega)).set (by omega) (by omega))
def adA (a : Nat → Nat → Int32) (k o z i : Nat) : Nat → Int32 := if i = 22 then spl (a 22) k (a 13) o z else if i = 23 then spl (a 23) k (a 14) o z else if i = 24 then spl (a 24) k (a 15) o z else if i = 25 then spl (a 25) k (a 16) o z else if i = 26 then spl (a 26) k (a 17) o z else a i
theorem adA_0 (a : Nat → Nat → Int32) (k o : Nat) : adA a k o 0 = a := by
  funext i
  unfold adA
  by_cases e : i = 22
  · subst e; rw [if_pos rfl, spl_0]
  rw [if_neg e]
  by_cases e : i = 23
  · subst e; rw [if_pos rfl, spl_0]
  rw [if_neg e]
  by_cases e : i = 24
  · subst e; rw [if_pos rfl, spl_0]
  rw [if_neg e]
  by_cases e : i = 25
  · subst e; rw [if_pos rfl, spl_0]
  rw [if_neg e]
  by_cases e : i = 26
  · subst e; rw [if_pos rfl, spl_0]
  rw [if_neg e]
theorem adA_1 (a : Nat → Nat → Int32) (k o j : Nat) : fset (fset (fset (fset (fset (adA a k o j) 23 (upd (adA a k o j 23) (k + j) (a 14 (o + j)))) 24 (upd (adA a k o j 24) (k + j) (a 15 (o + j)))) 25 (upd (adA a k o j 25) (k + j) (a 16 (o + j)))) 26 (upd (adA a k o j 26) (k + j) (a 17 (o + j)))) 22 (upd (adA a k o j 22) (k + j) (a 13 (o + j))) = adA a k o (j + 1) := by
  funext i
  by_cases e : i = 22
  · subst e; rw [fset_s]; exact spl_1
  rw [fset_n _ _ e]
  by_cases e6 : i = 26
  · subst e6; rw [fset_s]; exact spl_1
  rw [fset_n _ _ e6]
  by_cases e5 : i = 25
  · subst e5; rw [fset_s]; exact spl_1
  rw [fset_n _ _ e5]
  by_cases e4 : i = 24
  · subst e4; rw [fset_s]; exact spl_1
  rw [fset_n _ _ e4]
  by_cases e3 : i = 23
  · subst e3; rw [fset_s]; exact spl_1
  rw [fset_n _ _ e3]
  unfold adA
  rw [if_neg e, if_neg e3, if_neg e4, if_neg e5, if_neg e6, if_neg e, if_neg e3, if_neg e4, if_neg e5, if_neg e6]
set_option maxRecDepth 100000 in
set_option maxHeartbeats 400000 in
theorem D_addsTest {k o z0 : Nat} (m : MH h c a l) (hk : c 21 = nI k) (h18 : a 18 o = nI z0) (ho : o + z0 ≤ 40) (ho2 : o < 40) (h100 : k + z0 ≤ 100) (hq : ∀ h', MH h' (upd c 21 (nI (k + z0))) (adA a k o z0) l → sOff h h' 52 80 → Q none n h') : Ok 181 [.ref 52, .int (nI o)] n h Q := by
  refine ok_of kMX11_addsTest kCX11_addsTest (Nat.le_of_ble_eq_true rfl) (fun z => ?_)
  change A z _ _ 0 0 _ 0 [some (.ref 52), some (.int (nI o)), none] [] _
  refine go_ok okF1 (C := cdX11_addsTest) (by rfl) [2] 40 (by exact Nat.le_of_ble_eq_true rfl) ?_
  simp (maxSteps := 2000000) only [go, stp, inS, ↓reduceIte, Bool.false_eq_true, Nat.reduceLT, Nat.reduceEqDiff, Nat.reduceAdd, ldI, ldL, ldA, st1, st2, okS, List.getElem?_cons_zero, List.getElem?_cons_succ, List.length_cons, List.length_nil, List.set_cons_zero, List.set_cons_succ, callP, callF, popN, ct, Value.category, cI, List.getD_cons_zero, List.getD_cons_succ, and_self, and_true, true_and, Nat.zero_le, Nat.reduceLeDiff, Nat.add_zero, Nat.zero_add, List.nil_append, List.cons_append, Option.toList_some, Option.toList_none, List.append_nil, hset_ss, true_or, or_true, eq_self, beq_self_eq_true, List.drop_succ_cons, List.drop_zero, swT, swL, hset_ap, not_true_eq_false, not_false_eq_true, true_implies, false_implies, implies_true, Int32.reduceLE, Int32.reduceLT, Int32.reduceAdd, Int32.reduceSub, Int32.reduceOfInt, Int32.reduceToNatClampNeg, i10, i01, Nat.add_left_cancel_iff, Nat.left_eq_add, Nat.add_eq_left, cdX11_addsTest, F1]
  have loop : ∀ q j h', j + q = z0 → MH h' (upd c 21 (nI (k + j))) (adA a k o j) l → sOff h h' 52 80 → A z 181 n 0 0 h' 2 [some (.ref 52), some (.int (nI o)), some (.int (nI (o + j)))] [] Q := by
    intro q
    induction q with
    | zero =>
      intro j h' hj m' hO
      obtain rfl : j = z0 := by omega
      refine go_ok okF1 (C := cdX11_addsTest) (by rfl) [] 40 (by exact Nat.le_of_ble_eq_true rfl) ?_
      simp (maxSteps := 2000000) only [go, stp, inS, ↓reduceIte, Bool.false_eq_true, Nat.reduceLT, Nat.reduceEqDiff, Nat.reduceAdd, ldI, ldL, ldA, st1, st2, okS, List.getElem?_cons_zero, List.getElem?_cons_succ, List.length_cons, List.length_nil, List.set_cons_zero, List.set_cons_succ, callP, callF, popN, ct, Value.category, cI, List.getD_cons_zero, List.getD_cons_succ, and_self, and_true, true_and, Nat.zero_le, Nat.reduceLeDiff, Nat.add_zero, Nat.zero_add, List.nil_append, List.cons_append, Option.toList_some, Option.toList_none, List.append_nil, hset_ss, true_or, or_true, eq_self, beq_self_eq_true, List.drop_succ_cons, List.drop_zero, swT, swL, hset_ap, not_true_eq_false, not_false_eq_true, true_implies, false_implies, implies_true, Int32.reduceLE, Int32.reduceLT, Int32.reduceAdd, Int32.reduceSub, Int32.reduceOfInt, Int32.reduceToNatClampNeg, i10, i01, Nat.add_left_cancel_iff, Nat.left_eq_add, Nat.add_eq_left, cdX11_addsTest, F1, m'.o, m'.a18, i_cl (show o < 2147483648 by omega), (show adA a k o j 18 o = nI j from h18), nI_add, (show nI (o + j) ≤ nI (o + j) from i_nlt.mp (by rw [i_lt (by omega) (by omega)]; omega))]
      repeat refine ⟨vp_in_nI (by omega) (by omega), ?_⟩
      exact hq h' m' hO
    | succ q ih =>
      intro j h' hj m' hO
      have e : ¬ nI (o + z0) ≤ nI (o + j) := by rw [i_le (by omega) (by omega)]; omega
      refine go_ok okF1 (C := cdX11_addsTest) (by rfl) [] 60 (by exact Nat.le_of_ble_eq_true rfl) ?_
      simp (maxSteps := 2000000) only [go, stp, inS, ↓reduceIte, Bool.false_eq_true, Nat.reduceLT, Nat.reduceEqDiff, Nat.reduceAdd, ldI, ldL, ldA, st1, st2, okS, List.getElem?_cons_zero, List.getElem?_cons_succ, List.length_cons, List.length_nil, List.set_cons_zero, List.set_cons_succ, callP, callF, popN, ct, Value.category, cI, List.getD_cons_zero, List.getD_cons_succ, and_self, and_true, true_and, Nat.zero_le, Nat.reduceLeDiff, Nat.add_zero, Nat.zero_add, List.nil_append, List.cons_append, Option.toList_some, Option.toList_none, List.append_nil, hset_ss, true_or, or_true, eq_self, beq_self_eq_true, List.drop_succ_cons, List.drop_zero, swT, swL, hset_ap, not_true_eq_false, not_false_eq_true, true_implies, false_implies, implies_true, Int32.reduceLE, Int32.reduceLT, Int32.reduceAdd, Int32.reduceSub, Int32.reduceOfInt, Int32.reduceToNatClampNeg, i10, i01, Nat.add_left_cancel_iff, Nat.left_eq_add, Nat.add_eq_left, cdX11_addsTest, F1, m'.o, m'.a18, m'.a23, m'.a24, m'.a25, m'.a26, m'.a14, m'.a15, m'.a16, m'.a17, m'.a13, i_cl (show o < 2147483648 by omega), (show adA a k o j 18 o = nI z0 from h18), nI_add, e, (show upd c 21 (nI (k + j)) 21 = nI (k + j) from rfl), i_cl (show k + j < 2147483648 by omega), i_cl (show o + j < 2147483648 by omega)]
      repeat refine ⟨vp_in_nI (by omega) (by omega), ?_⟩
      have m2 := (((m'.s23 (upd (adA a k o j 23) (k + j) (a 14 (o + j)))).s24 (upd (adA a k o j 24) (k + j) (a 15 (o + j)))).s25 (upd (adA a k o j 25) (k + j) (a 16 (o + j)))).s26 (upd (adA a k o j 26) (k + j) (a 17 (o + j)))
      refine D_addsSign (k := k + j) m2 rfl (by omega) (fun h2 m3 o3 => ?_)
      refine go_ok okF1 (C := cdX11_addsTest) (by rfl) [2] 60 (by exact Nat.le_of_ble_eq_true rfl) ?_
      simp (maxSteps := 2000000) only [go, stp, inS, ↓reduceIte, Bool.false_eq_true, Nat.reduceLT, Nat.reduceEqDiff, Nat.reduceAdd, ldI, ldL, ldA, st1, st2, okS, List.getElem?_cons_zero, List.getElem?_cons_succ, List.length_cons, List.length_nil, List.set_cons_zero, List.set_cons_succ, callP, callF, popN, ct, Value.category, cI, List.getD_cons_zero, List.getD_cons_succ, and_self, and_true, true_and, Nat.zero_le, Nat.reduceLeDiff, Nat.add_zero, Nat.zero_add, List.nil_append, List.cons_append, Option.toList_some, Option.toList_none, List.append_nil, hset_ss, true_or, or_true, eq_self, beq_self_eq_true, List.drop_succ_cons, List.drop_zero, swT, swL, hset_ap, not_true_eq_false, not_false_eq_true, true_implies, false_implies, implies_true, Int32.reduceLE, Int32.reduceLT, Int32.reduceAdd, Int32.reduceSub, Int32.reduceOfInt, Int32.reduceToNatClampNeg, i10, i01, Nat.add_left_cancel_iff, Nat.left_eq_add, Nat.add_eq_left, cdX11_addsTest, F1, nI_1]
      rw [updupd] at m3
      have m4 : MH h2 (upd c 21 (nI (k + j + 1))) (adA a k o (j + 1)) l := by
        have := adA_1 a k o j
        rw [← this]; exact m3
      exact ih (j + 1) h2 (by omega) m4 (((((hO.set (by omega) (by omega)).set (by omega) (by omega)).set (by omega) (by omega)).set (by omega) (by omega)).tr o3)
  exact loop z0 0 h (by omega) (by rw [adA_0]; have : upd c 21 (nI (k + 0)) = c := by rw [Nat.add_zero, ← hk, upd_me]
                                   rw [this]; exact m) sOff.rf
set_option maxRecDepth 100000 in
set_option maxHeartbeats 400000 in
theorem D_stands (m : MH h c a l) (hk : c 21 = nI N) (hN : N ≤ 100) (hW : WFG G N) (h22 : ∀ k, k < N → a 22 k = G k) (hq : ∀ h' g, MH h' c (fset a 27 g) l → (∀ k, k < N → g k = nI (sz G N k)) → sOff h h' 52 80 → Q none n h') : Ok 182 [.ref 52] n h Q := by
  refine ok_of kMX11_stands kCX11_stands (Nat.le_of_ble_eq_true rfl) (fun z => ?_)
  change A z _ _ 0 0 _ 0 [some (.ref 52), none] [] _
  refine go_ok okF1 (C := cdX11_stands) (by rfl) [7] 40 (by exact Nat.le_of_ble_eq_true rfl) ?_
  simp (maxSteps := 2000000) only [go, stp, inS, ↓reduceIte, Bool.false_eq_true, Nat.reduceLT, Nat.reduceEqDiff, Nat.reduceAdd, ldI, ldL, ldA, st1, st2, okS, List.getElem?_cons_zero, List.getElem?_cons_succ, List.length_cons, List.length_nil, List.set_cons_zero, List.set_cons_succ, callP, callF, popN, ct, Value.category, cI, List.getD_cons_zero, List.getD_cons_succ, and_self, and_true, true_and, Nat.zero_le, Nat.reduceLeDiff, Nat.add_zero, Nat.zero_add, List.nil_append, List.cons_append, Option.toList_some, Option.toList_none, List.append_nil, hset_ss, true_or, or_true, eq_self, beq_self_eq_true, List.drop_succ_cons, List.drop_zero, swT, swL, hset_ap, not_true_eq_false, not_false_eq_true, true_implies, false_implies, implies_true, Int32.reduceLE, Int32.reduceLT, Int32.reduceAdd, Int32.reduceSub, Int32.reduceOfInt, Int32.reduceToNatClampNeg, i10, i01, Nat.add_left_cancel_iff, Nat.left_eq_add, Nat.add_eq_left, cdX11_stands, F1, m.o, hk]
  have loop : ∀ k, k ≤ N → ∀ (x : Int32) h' g, x + 1 = nI k → MH h' c (fset a 27 g) l → (∀ j, k ≤ j → j < N → g j = nI (sz G N j)) → sOff h h' 52 80 → A z 182 n 0 0 h' 7 [some (.ref 52), some (.int x)] [] Q := by
    intro k
    induction k with
    | zero =>
      intro _ x h' g hx m' hg hO
      obtain rfl := x_d0 hx
      refine go_ok okF1 (C := cdX11_stands) (by rfl) [] 40 (by exact Nat.le_of_ble_eq_true rfl) ?_
      simp (maxSteps := 2000000) only [go, stp, inS, ↓reduceIte, Bool.false_eq_true, Nat.reduceLT, Nat.reduceEqDiff, Nat.reduceAdd, ldI, ldL, ldA, st1, st2, okS, List.getElem?_cons_zero, List.getElem?_cons_succ, List.length_cons, List.length_nil, List.set_cons_zero, List.set_cons_succ, callP, callF, popN, ct, Value.category, cI, List.getD_cons_zero, List.getD_cons_succ, and_self, and_true, true_and, Nat.zero_le, Nat.reduceLeDiff, Nat.add_zero, Nat.zero_add, List.nil_append, List.cons_append, Option.toList_some, Option.toList_none, List.append_nil, hset_ss, true_or, or_true, eq_self, beq_self_eq_true, List.drop_succ_cons, List.drop_zero, swT, swL, hset_ap, not_true_eq_false, not_false_eq_true, true_implies, false_implies, implies_true, Int32.reduceLE, Int32.reduceLT, Int32.reduceAdd, Int32.reduceSub, Int32.reduceOfInt, Int32.reduceToNatClampNeg, i10, i01, Nat.add_left_cancel_iff, Nat.left_eq_add, Nat.add_eq_left, cdX11_stands, F1, (show ((-1 : Int32) < 0) from by decide)]
      exact hq h' g m' (fun k hk => hg k (by omega) hk) hO
    | succ k ih =>
      intro hk x h' g hx m' hg hO
      obtain rfl := x_dn hx
      have hk' : k < N := by omega
      have a13 := h22 k hk'
      have c0 : ¬ nI k < 0 := i_nn (by omega)
      have nx : ∀ g2 : Nat → Int32, (∀ j, k ≤ j → j < N → g2 j = nI (sz G N j)) → ∀ h2, MH h2 c (fset (fset a 27 g) 27 g2) l → sOff h h2 52 80 → A z 182 n 0 0 h2 7 [some (.ref 52), some (.int (nI k + (-1)))] [] Q := fun g2 hg2 h2 m2 hO2 =>
        ih (by omega) _ h2 g2 (x_m1 _) (by rw [fsetset] at m2; exact m2) hg2 hO2
      rcases (hW.1 k hk').1 with hc | hc | hc
      · have nt : ¬ (G k = 38 ∨ G k = 124) := cm_ntw hc
        have e1 : (G k = 60 ∨ G k = 61 ∨ G k = 62) = True := eq_true hc
        refine go_ok okF1 (C := cdX11_stands) (by rfl) [7] 60 (by exact Nat.le_of_ble_eq_true rfl) ?_
        simp (maxSteps := 2000000) only [go, stp, inS, ↓reduceIte, Bool.false_eq_true, Nat.reduceLT, Nat.reduceEqDiff, Nat.reduceAdd, ldI, ldL, ldA, st1, st2, okS, List.getElem?_cons_zero, List.getElem?_cons_succ, List.length_cons, List.length_nil, List.set_cons_zero, List.set_cons_succ, callP, callF, popN, ct, Value.category, cI, List.getD_cons_zero, List.getD_cons_succ, and_self, and_true, true_and, Nat.zero_le, Nat.reduceLeDiff, Nat.add_zero, Nat.zero_add, List.nil_append, List.cons_append, Option.toList_some, Option.toList_none, List.append_nil, hset_ss, true_or, or_true, eq_self, beq_self_eq_true, List.drop_succ_cons, List.drop_zero, swT, swL, hset_ap, not_true_eq_false, not_false_eq_true, true_implies, false_implies, implies_true, Int32.reduceLE, Int32.reduceLT, Int32.reduceAdd, Int32.reduceSub, Int32.reduceOfInt, Int32.reduceToNatClampNeg, i10, i01, Nat.add_left_cancel_iff, Nat.left_eq_add, Nat.add_eq_left, cdX11_stands, F1, c0, m'.o, m'.a22, m'.a27, i_cl (show k < 2147483648 by omega), (show fset a 27 g 22 k = G k from a13), e1, eq_false nt]
        repeat refine ⟨vp_in_nI (by omega) (by omega), ?_⟩
        refine nx (upd g k 1) (fun j j1 j2 => ?_) _ (m'.s27 _) (hO.set (by omega) (by omega))
        by_cases e : j = k
        · subst e; rw [pk_us, sz_cm hk' hc]; rfl
        · rw [pk_un e]; exact hg j (by omega) j2
      · have nc : ¬ (G k = 60 ∨ G k = 61 ∨ G k = 62) := tw_ncm hc
        have e1 : (G k = 38 ∨ G k = 124) = True := eq_true hc
        obtain ⟨b1, b2⟩ := wf_bi hW hk' hc
        have hz1 := sz_wf hW _ (k + 1) (Nat.le_refl _) b1
        have z1 := hg (k + 1) (by omega) b1
        have z2 := hg (k + 1 + sz G N (k + 1)) (by omega) b2
        have q1 : (1 : Int32) + nI (sz G N (k + 1)) = nI (1 + sz G N (k + 1)) := nI_add 1 _
        have q2 : nI k + nI (1 + sz G N (k + 1)) = nI (k + 1 + sz G N (k + 1)) := by rw [nI_add]; congr 1; omega
        have u1 : upd (fset a 27 g 27) k 1 (k + 1) = nI (sz G N (k + 1)) := by rw [pk_un (by omega)]; exact z1
        have u2 : upd (upd (fset a 27 g 27) k 1) k (nI (1 + sz G N (k + 1))) (k + 1 + sz G N (k + 1)) = nI (sz G N (k + 1 + sz G N (k + 1))) := by rw [pk_un (by omega), pk_un (by omega)]; exact z2
        refine go_ok okF1 (C := cdX11_stands) (by rfl) [7] 80 (by exact Nat.le_of_ble_eq_true rfl) ?_
        simp (maxSteps := 2000000) only [go, stp, inS, ↓reduceIte, Bool.false_eq_true, Nat.reduceLT, Nat.reduceEqDiff, Nat.reduceAdd, ldI, ldL, ldA, st1, st2, okS, List.getElem?_cons_zero, List.getElem?_cons_succ, List.length_cons, List.length_nil, List.set_cons_zero, List.set_cons_succ, callP, callF, popN, ct, Value.category, cI, List.getD_cons_zero, List.getD_cons_succ, and_self, and_true, true_and, Nat.zero_le, Nat.reduceLeDiff, Nat.add_zero, Nat.zero_add, List.nil_append, List.cons_append, Option.toList_some, Option.toList_none, List.append_nil, hset_ss, true_or, or_true, eq_self, beq_self_eq_true, List.drop_succ_cons, List.drop_zero, swT, swL, hset_ap, not_true_eq_false, not_false_eq_true, true_implies, false_implies, implies_true, Int32.reduceLE, Int32.reduceLT, Int32.reduceAdd, Int32.reduceSub, Int32.reduceOfInt, Int32.reduceToNatClampNeg, i10, i01, Nat.add_left_cancel_iff, Nat.left_eq_add, Nat.add_eq_left, cdX11_stands, F1, c0, m'.o, m'.a22, m'.a27, i_cl (show k < 2147483648 by omega), nI_1, i_cl (show k + 1 < 2147483648 by omega), (show fset a 27 g 22 k = G k from a13), e1, eq_false nc, pk_us, u1, q1, q2, i_cl (show k + 1 + sz G N (k + 1) < 2147483648 by omega), u2, nI_add]
        repeat refine ⟨vp_in_nI (by omega) (by omega), ?_⟩
        refine nx _ (fun j j1 j2 => ?_) _ (m'.s27 _) (hO.set (by omega) (by omega))
        by_cases e : j = k
        · subst e; rw [pk_us, sz_tw hk' hc]
        · rw [pk_un e, pk_un e, pk_un e]; exact hg j (by omega) j2
      · have nc : ¬ (G k = 60 ∨ G k = 61 ∨ G k = 62) := on_ncm hc
        have nt : ¬ (G k = 38 ∨ G k = 124) := on_ntw hc
        have b1 := wf_un hW hk' (on_ncm hc)
        have z1 := hg (k + 1) (by omega) b1
        have q1 : (1 : Int32) + nI (sz G N (k + 1)) = nI (1 + sz G N (k + 1)) := nI_add 1 _
        have u1 : upd (fset a 27 g 27) k 1 (k + 1) = nI (sz G N (k + 1)) := by rw [pk_un (by omega)]; exact z1
        refine go_ok okF1 (C := cdX11_stands) (by rfl) [7] 80 (by exact Nat.le_of_ble_eq_true rfl) ?_
        simp (maxSteps := 2000000) only [go, stp, inS, ↓reduceIte, Bool.false_eq_true, Nat.reduceLT, Nat.reduceEqDiff, Nat.reduceAdd, ldI, ldL, ldA, st1, st2, okS, List.getElem?_cons_zero, List.getElem?_cons_succ, List.length_cons, List.length_nil, List.set_cons_zero, List.set_cons_succ, callP, callF, popN, ct, Value.category, cI, List.getD_cons_zero, List.getD_cons_succ, and_self, and_true, true_and, Nat.zero_le, Nat.reduceLeDiff, Nat.add_zero, Nat.zero_add, List.nil_append, List.cons_append, Option.toList_some, Option.toList_none, List.append_nil, hset_ss, true_or, or_true, eq_self, beq_self_eq_true, List.drop_succ_cons, List.drop_zero, swT, swL, hset_ap, not_true_eq_false, not_false_eq_true, true_implies, false_implies, implies_true, Int32.reduceLE, Int32.reduceLT, Int32.reduceAdd, Int32.reduceSub, Int32.reduceOfInt, Int32.reduceToNatClampNeg, i10, i01, Nat.add_left_cancel_iff, Nat.left_eq_add, Nat.add_eq_left, cdX11_stands, F1, c0, m'.o, m'.a22, m'.a27, i_cl (show k < 2147483648 by omega), nI_1, i_cl (show k + 1 < 2147483648 by omega), (show fset a 27 g 22 k = G k from a13), eq_false nt, eq_false nc, pk_us, u1, q1]
        repeat refine ⟨vp_in_nI (by omega) (by omega), ?_⟩
        refine nx _ (fun j j1 j2 => ?_) _ (m'.s27 _) (hO.set (by omega) (by omega))
        by_cases e : j = k
        · subst e; rw [pk_us, sz_on hk' hc]
        · rw [pk_un e, pk_un e]; exact hg j (by omega) j2
  exact loop N (Nat.le_refl _) _ h (a 27) (x_s1 _) (by rw [fset_me]; exact m) (fun j h1 h2 => absurd h2 (by omega)) sOff.rf
end MZ
