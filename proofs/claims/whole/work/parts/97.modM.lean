
/-! the model: rows that are asked of, sums, kinds -/
def kiN (f : Nat → Int32) (s : Int32) (c : Nat) : Nat → Nat
  | 0 => 0
  | r + 1 => kiN f s c r + b2n (bt s r && !anyB r (fun o => bt s o && f (o * 3 + c) == f (r * 3 + c)))
theorem pcN_mono (x : Int32) {i j : Nat} (h : i ≤ j) : pcN x i ≤ pcN x j := by
  obtain ⟨d, rfl⟩ : ∃ d, j = i + d := ⟨j - i, by omega⟩
  induction d with
  | zero => exact Nat.le_refl _
  | succ d ih => rw [← Nat.add_assoc, pcN]; have := ih (by omega); omega
theorem pcN_lt {x : Int32} {i j : Nat} (h : i < j) (hb : bt x i = true) : pcN x i < pcN x j := by
  have := pcN_mono x (show i + 1 ≤ j from h)
  rw [pcN, hb] at this
  exact this
section MM
variable {n : Nat} {h : aH} {Q : aQ} {M : MS} {c : Nat → Int32} {a : Nat → Nat → Int32} {l : Nat → Nat → Int64} {G L R : Nat → Int32} {N nr q : Nat}
set_option maxRecDepth 100000 in
set_option maxHeartbeats 400000 in
theorem D_allRows (m : MH h c a l) (hr : c 5 = nI nr) (hq : Q (some (.int (alm nr))) n h) : Ok 165 [.ref 52] n h Q := by
  refine ok_of kMX11_allRows kCX11_allRows (Nat.le_of_ble_eq_true rfl) (fun z => ?_)
  change A z _ _ 0 0 _ 0 [some (.ref 52)] [] _
  refine go_ok okF1 (C := cdX11_allRows) (by rfl) [] 20 (by exact Nat.le_of_ble_eq_true rfl) ?_
  simp (maxSteps := 2000000) only [go, stp, inS, ↓reduceIte, Bool.false_eq_true, Nat.reduceLT, Nat.reduceEqDiff, Nat.reduceAdd, ldI, ldL, ldA, st1, st2, okS, List.getElem?_cons_zero, List.getElem?_cons_succ, List.length_cons, List.length_nil, List.set_cons_zero, List.set_cons_succ, callP, callF, popN, ct, Value.category, cI, List.getD_cons_zero, List.getD_cons_succ, and_self, and_true, true_and, Nat.zero_le, Nat.reduceLeDiff, Nat.add_zero, Nat.zero_add, List.nil_append, List.cons_append, Option.toList_some, Option.toList_none, List.append_nil, hset_ss, true_or, or_true, eq_self, beq_self_eq_true, List.drop_succ_cons, List.drop_zero, swT, swL, hset_ap, not_true_eq_false, not_false_eq_true, true_implies, false_implies, implies_true, Int32.reduceLE, Int32.reduceLT, Int32.reduceAdd, Int32.reduceSub, Int32.reduceOfInt, Int32.reduceToNatClampNeg, i10, i01, Nat.add_left_cancel_iff, Nat.left_eq_add, Nat.add_eq_left, cdX11_allRows, F1, m.o, hr]
  exact hq
set_option maxRecDepth 100000 in
set_option maxHeartbeats 400000 in
theorem D_asks {s : Int32} (m : MH h c a l) (hr : c 5 = nI nr) (h8 : nr ≤ 8) (hq : ∀ h' g, MH h' (upd c 7 (nI (pcN s nr))) (fset a 8 g) l → (∀ r, r < nr → bt s r = true → ∀ k, k < 3 → g (pcN s r * 3 + k) = a 6 (r * 3 + k)) → sOff h h' 52 80 → Q none n h') : Ok 164 [.ref 52, .int s] n h Q := by
  refine ok_of kMX11_asks kCX11_asks (Nat.le_of_ble_eq_true rfl) (fun z => ?_)
  change A z _ _ 0 0 _ 0 [some (.ref 52), some (.int s), none, none] [] _
  refine go_ok okF1 (C := cdX11_asks) (by rfl) [7] 40 (by exact Nat.le_of_ble_eq_true rfl) ?_
  simp (maxSteps := 2000000) only [go, stp, inS, ↓reduceIte, Bool.false_eq_true, Nat.reduceLT, Nat.reduceEqDiff, Nat.reduceAdd, ldI, ldL, ldA, st1, st2, okS, List.getElem?_cons_zero, List.getElem?_cons_succ, List.length_cons, List.length_nil, List.set_cons_zero, List.set_cons_succ, callP, callF, popN, ct, Value.category, cI, List.getD_cons_zero, List.getD_cons_succ, and_self, and_true, true_and, Nat.zero_le, Nat.reduceLeDiff, Nat.add_zero, Nat.zero_add, List.nil_append, List.cons_append, Option.toList_some, Option.toList_none, List.append_nil, hset_ss, true_or, or_true, eq_self, beq_self_eq_true, List.drop_succ_cons, List.drop_zero, swT, swL, hset_ap, not_true_eq_false, not_false_eq_true, true_implies, false_implies, implies_true, Int32.reduceLE, Int32.reduceLT, Int32.reduceAdd, Int32.reduceSub, Int32.reduceOfInt, Int32.reduceToNatClampNeg, i10, i01, Nat.add_left_cancel_iff, Nat.left_eq_add, Nat.add_eq_left, cdX11_asks, F1, m.o]
  have loop : ∀ w r h' g o3, r + w = nr → MH h' (upd c 7 (nI (pcN s r))) (fset a 8 g) l → (∀ i, i < r → bt s i = true → ∀ k, k < 3 → g (pcN s i * 3 + k) = a 6 (i * 3 + k)) → sOff h h' 52 80 → A z 164 n 0 0 h' 7 [some (.ref 52), some (.int s), some (.int (nI r)), o3] [] Q := by
    intro w
    induction w with
    | zero =>
      intro r h' g o3 hw m' hg hO
      obtain rfl : r = nr := by omega
      refine go_ok okF1 (C := cdX11_asks) (by rfl) [] 40 (by exact Nat.le_of_ble_eq_true rfl) ?_
      simp (maxSteps := 2000000) only [go, stp, inS, ↓reduceIte, Bool.false_eq_true, Nat.reduceLT, Nat.reduceEqDiff, Nat.reduceAdd, ldI, ldL, ldA, st1, st2, okS, List.getElem?_cons_zero, List.getElem?_cons_succ, List.length_cons, List.length_nil, List.set_cons_zero, List.set_cons_succ, callP, callF, popN, ct, Value.category, cI, List.getD_cons_zero, List.getD_cons_succ, and_self, and_true, true_and, Nat.zero_le, Nat.reduceLeDiff, Nat.add_zero, Nat.zero_add, List.nil_append, List.cons_append, Option.toList_some, Option.toList_none, List.append_nil, hset_ss, true_or, or_true, eq_self, beq_self_eq_true, List.drop_succ_cons, List.drop_zero, swT, swL, hset_ap, not_true_eq_false, not_false_eq_true, true_implies, false_implies, implies_true, Int32.reduceLE, Int32.reduceLT, Int32.reduceAdd, Int32.reduceSub, Int32.reduceOfInt, Int32.reduceToNatClampNeg, i10, i01, Nat.add_left_cancel_iff, Nat.left_eq_add, Nat.add_eq_left, cdX11_asks, F1, m'.o, (show upd c 7 (nI (pcN s r)) 5 = nI r from hr), (show nI r ≤ nI r from (i_le (by omega) (by omega)).mpr (by omega))]
      exact hq h' g m' hg hO
    | succ w ih =>
      intro r h' g o3 hw m' hg hO
      have e : ¬ nI nr ≤ nI r := by rw [i_le (by omega) (by omega)]; omega
      have hp := pcN_le s r
      have e5 : upd c 7 (nI (pcN s r)) 5 = nI nr := hr
      have e7 : upd c 7 (nI (pcN s r)) 7 = nI (pcN s r) := rfl
      by_cases hb : bt s r = true
      · have hs : pcN s (r + 1) = pcN s r + 1 := by rw [pcN, hb]; rfl
        refine go_ok okF1 (C := cdX11_asks) (by rfl) [7] 90 (by exact Nat.le_of_ble_eq_true rfl) ?_
        simp (maxSteps := 2000000) only [go, stp, inS, ↓reduceIte, Bool.false_eq_true, Nat.reduceLT, Nat.reduceEqDiff, Nat.reduceAdd, ldI, ldL, ldA, st1, st2, okS, List.getElem?_cons_zero, List.getElem?_cons_succ, List.length_cons, List.length_nil, List.set_cons_zero, List.set_cons_succ, callP, callF, popN, ct, Value.category, cI, List.getD_cons_zero, List.getD_cons_succ, and_self, and_true, true_and, Nat.zero_le, Nat.reduceLeDiff, Nat.add_zero, Nat.zero_add, List.nil_append, List.cons_append, Option.toList_some, Option.toList_none, List.append_nil, hset_ss, true_or, or_true, eq_self, beq_self_eq_true, List.drop_succ_cons, List.drop_zero, swT, swL, hset_ap, not_true_eq_false, not_false_eq_true, true_implies, false_implies, implies_true, Int32.reduceLE, Int32.reduceLT, Int32.reduceAdd, Int32.reduceSub, Int32.reduceOfInt, Int32.reduceToNatClampNeg, i10, i01, Nat.add_left_cancel_iff, Nat.left_eq_add, Nat.add_eq_left, cdX11_asks, F1, m'.o, e5, e, b_ask _ (show r < 32 by omega), hb, m'.a6, m'.a8, e7, ix3, Int32.add_zero, nI_1, ix2, i_cl (show 3 * pcN s r < 2147483648 by omega), i_cl (show 3 * pcN s r + 1 < 2147483648 by omega), i_cl (show 3 * pcN s r + 2 < 2147483648 by omega), i_cl (show 3 * r < 2147483648 by omega), i_cl (show 3 * r + 1 < 2147483648 by omega), i_cl (show 3 * r + 2 < 2147483648 by omega)]
        repeat refine ⟨vp_in_nI (by omega) (by omega), ?_⟩
        refine ih (r + 1) _ (upd (upd (upd g (3 * pcN s r) (a 6 (3 * r))) (3 * pcN s r + 1) (a 6 (3 * r + 1))) (3 * pcN s r + 2) (a 6 (3 * r + 2))) _ (by omega) ?_ (fun i hi hbi k hk => ?_) ((hO.set (by omega) (by omega)).set (by omega) (by omega))
        · have m3 := (m'.s8 (upd (upd (upd g (3 * pcN s r) (a 6 (3 * r))) (3 * pcN s r + 1) (a 6 (3 * r + 1))) (3 * pcN s r + 2) (a 6 (3 * r + 2)))).sc (upd (upd c 5 (nI nr)) 7 (nI (pcN s r + 1)))
          rw [fsetset] at m3
          have e : upd (upd c 5 (nI nr)) 7 (nI (pcN s r + 1)) = upd c 7 (nI (pcN s r + 1)) := by rw [← hr, upd_me]
          rw [hs, ← e]
          exact m3
        · by_cases ei : i = r
          · subst ei
            rcases (by omega : k = 0 ∨ k = 1 ∨ k = 2) with rfl | rfl | rfl
            · rw [Nat.mul_comm (pcN s i) 3, Nat.mul_comm i 3, Nat.add_zero (3 * pcN s i), Nat.add_zero (3 * i), pk_un (by omega), pk_un (by omega), pk_us]
            · rw [Nat.mul_comm (pcN s i) 3, Nat.mul_comm i 3, pk_un (by omega), pk_us]
            · rw [Nat.mul_comm (pcN s i) 3, Nat.mul_comm i 3, pk_us]
          · have := pcN_lt (show i < r by omega) hbi
            rw [pk_un (by omega), pk_un (by omega), pk_un (by omega)]
            exact hg i (by omega) hbi k hk
      · have hs : pcN s (r + 1) = pcN s r := by rw [pcN, Bool.eq_false_iff.mpr hb]; rfl
        refine go_ok okF1 (C := cdX11_asks) (by rfl) [7] 90 (by exact Nat.le_of_ble_eq_true rfl) ?_
        simp (maxSteps := 2000000) only [go, stp, inS, ↓reduceIte, Bool.false_eq_true, Nat.reduceLT, Nat.reduceEqDiff, Nat.reduceAdd, ldI, ldL, ldA, st1, st2, okS, List.getElem?_cons_zero, List.getElem?_cons_succ, List.length_cons, List.length_nil, List.set_cons_zero, List.set_cons_succ, callP, callF, popN, ct, Value.category, cI, List.getD_cons_zero, List.getD_cons_succ, and_self, and_true, true_and, Nat.zero_le, Nat.reduceLeDiff, Nat.add_zero, Nat.zero_add, List.nil_append, List.cons_append, Option.toList_some, Option.toList_none, List.append_nil, hset_ss, true_or, or_true, eq_self, beq_self_eq_true, List.drop_succ_cons, List.drop_zero, swT, swL, hset_ap, not_true_eq_false, not_false_eq_true, true_implies, false_implies, implies_true, Int32.reduceLE, Int32.reduceLT, Int32.reduceAdd, Int32.reduceSub, Int32.reduceOfInt, Int32.reduceToNatClampNeg, i10, i01, Nat.add_left_cancel_iff, Nat.left_eq_add, Nat.add_eq_left, cdX11_asks, F1, m'.o, e5, e, b_ask _ (show r < 32 by omega), hb, nI_1]
        refine ih (r + 1) h' g _ (by omega) (by rw [hs]; exact m') (fun i hi hbi => ?_) hO
        by_cases ei : i = r
        · subst ei; exact absurd hbi hb
        · exact hg i (by omega) hbi
  exact loop nr 0 _ (a 8) _ (by omega) (by rw [fset_me]; exact m.sc (upd c 7 0)) (fun i hi => absurd hi (by omega)) (sOff.rf.set (by omega) (by omega))
set_option maxRecDepth 100000 in
set_option maxHeartbeats 400000 in
theorem D_like {r o : Nat} (m : MH h c a l) (hr : r < 8) (ho : o < 8) (hq : Q (some (.int (if sameB (a 8) r o = true then 1 else 0))) n h) : Ok 191 [.ref 52, .int (nI r), .int (nI o)] n h Q := by
  have sm : sameB (a 8) r o = true ↔ (a 8 (3 * r) = a 8 (3 * o) ∧ a 8 (3 * r + 1) = a 8 (3 * o + 1) ∧ a 8 (3 * r + 2) = a 8 (3 * o + 2)) := by
    unfold sameB; rw [Nat.mul_comm r, Nat.mul_comm o]; simp [and_assoc]
  refine ok_of kMX11_areLike kCX11_areLike (Nat.le_of_ble_eq_true rfl) (fun z => ?_)
  change A z _ _ 0 0 _ 0 [some (.ref 52), some (.int (nI r)), some (.int (nI o)), none, none] [] _
  by_cases e0 : a 8 (3 * r) = a 8 (3 * o)
  · by_cases e1 : a 8 (3 * r + 1) = a 8 (3 * o + 1)
    · by_cases e2 : a 8 (3 * r + 2) = a 8 (3 * o + 2)
      · rw [if_pos (sm.mpr ⟨e0, e1, e2⟩)] at hq
        refine go_ok okF1 (C := cdX11_areLike) (by rfl) [] 90 (by exact Nat.le_of_ble_eq_true rfl) ?_
        simp (maxSteps := 2000000) only [go, stp, inS, ↓reduceIte, Bool.false_eq_true, Nat.reduceLT, Nat.reduceEqDiff, Nat.reduceAdd, ldI, ldL, ldA, st1, st2, okS, List.getElem?_cons_zero, List.getElem?_cons_succ, List.length_cons, List.length_nil, List.set_cons_zero, List.set_cons_succ, callP, callF, popN, ct, Value.category, cI, List.getD_cons_zero, List.getD_cons_succ, and_self, and_true, true_and, Nat.zero_le, Nat.reduceLeDiff, Nat.add_zero, Nat.zero_add, List.nil_append, List.cons_append, Option.toList_some, Option.toList_none, List.append_nil, hset_ss, true_or, or_true, eq_self, beq_self_eq_true, List.drop_succ_cons, List.drop_zero, swT, swL, hset_ap, not_true_eq_false, not_false_eq_true, true_implies, false_implies, implies_true, Int32.reduceLE, Int32.reduceLT, Int32.reduceAdd, Int32.reduceSub, Int32.reduceOfInt, Int32.reduceToNatClampNeg, i10, i01, Nat.add_left_cancel_iff, Nat.left_eq_add, Nat.add_eq_left, cdX11_areLike, F1, m.o, m.a8, ix3, Int32.add_zero, nI_1, ix2, i_cl (show 3 * r < 2147483648 by omega), i_cl (show 3 * r + 1 < 2147483648 by omega), i_cl (show 3 * r + 2 < 2147483648 by omega), i_cl (show 3 * o < 2147483648 by omega), i_cl (show 3 * o + 1 < 2147483648 by omega), i_cl (show 3 * o + 2 < 2147483648 by omega), e0, e1, e2]
        repeat refine ⟨vp_in_nI (by omega) (by omega), ?_⟩
        exact hq
      · rw [if_neg (fun q => e2 (sm.mp q).2.2)] at hq
        refine go_ok okF1 (C := cdX11_areLike) (by rfl) [] 90 (by exact Nat.le_of_ble_eq_true rfl) ?_
        simp (maxSteps := 2000000) only [go, stp, inS, ↓reduceIte, Bool.false_eq_true, Nat.reduceLT, Nat.reduceEqDiff, Nat.reduceAdd, ldI, ldL, ldA, st1, st2, okS, List.getElem?_cons_zero, List.getElem?_cons_succ, List.length_cons, List.length_nil, List.set_cons_zero, List.set_cons_succ, callP, callF, popN, ct, Value.category, cI, List.getD_cons_zero, List.getD_cons_succ, and_self, and_true, true_and, Nat.zero_le, Nat.reduceLeDiff, Nat.add_zero, Nat.zero_add, List.nil_append, List.cons_append, Option.toList_some, Option.toList_none, List.append_nil, hset_ss, true_or, or_true, eq_self, beq_self_eq_true, List.drop_succ_cons, List.drop_zero, swT, swL, hset_ap, not_true_eq_false, not_false_eq_true, true_implies, false_implies, implies_true, Int32.reduceLE, Int32.reduceLT, Int32.reduceAdd, Int32.reduceSub, Int32.reduceOfInt, Int32.reduceToNatClampNeg, i10, i01, Nat.add_left_cancel_iff, Nat.left_eq_add, Nat.add_eq_left, cdX11_areLike, F1, m.o, m.a8, ix3, Int32.add_zero, nI_1, ix2, i_cl (show 3 * r < 2147483648 by omega), i_cl (show 3 * r + 1 < 2147483648 by omega), i_cl (show 3 * r + 2 < 2147483648 by omega), i_cl (show 3 * o < 2147483648 by omega), i_cl (show 3 * o + 1 < 2147483648 by omega), i_cl (show 3 * o + 2 < 2147483648 by omega), e0, e1, e2]
        repeat refine ⟨vp_in_nI (by omega) (by omega), ?_⟩
        exact hq
    · rw [if_neg (fun q => e1 (sm.mp q).2.1)] at hq
      refine go_ok okF1 (C := cdX11_areLike) (by rfl) [] 90 (by exact Nat.le_of_ble_eq_true rfl) ?_
      simp (maxSteps := 2000000) only [go, stp, inS, ↓reduceIte, Bool.false_eq_true, Nat.reduceLT, Nat.reduceEqDiff, Nat.reduceAdd, ldI, ldL, ldA, st1, st2, okS, List.getElem?_cons_zero, List.getElem?_cons_succ, List.length_cons, List.length_nil, List.set_cons_zero, List.set_cons_succ, callP, callF, popN, ct, Value.category, cI, List.getD_cons_zero, List.getD_cons_succ, and_self, and_true, true_and, Nat.zero_le, Nat.reduceLeDiff, Nat.add_zero, Nat.zero_add, List.nil_append, List.cons_append, Option.toList_some, Option.toList_none, List.append_nil, hset_ss, true_or, or_true, eq_self, beq_self_eq_true, List.drop_succ_cons, List.drop_zero, swT, swL, hset_ap, not_true_eq_false, not_false_eq_true, true_implies, false_implies, implies_true, Int32.reduceLE, Int32.reduceLT, Int32.reduceAdd, Int32.reduceSub, Int32.reduceOfInt, Int32.reduceToNatClampNeg, i10, i01, Nat.add_left_cancel_iff, Nat.left_eq_add, Nat.add_eq_left, cdX11_areLike, F1, m.o, m.a8, ix3, Int32.add_zero, nI_1, ix2, i_cl (show 3 * r < 2147483648 by omega), i_cl (show 3 * r + 1 < 2147483648 by omega), i_cl (show 3 * o < 2147483648 by omega), i_cl (show 3 * o + 1 < 2147483648 by omega), e0, e1]
      repeat refine ⟨vp_in_nI (by omega) (by omega), ?_⟩
      exact hq
  · rw [if_neg (fun q => e0 (sm.mp q).1)] at hq
    refine go_ok okF1 (C := cdX11_areLike) (by rfl) [] 90 (by exact Nat.le_of_ble_eq_true rfl) ?_
    simp (maxSteps := 2000000) only [go, stp, inS, ↓reduceIte, Bool.false_eq_true, Nat.reduceLT, Nat.reduceEqDiff, Nat.reduceAdd, ldI, ldL, ldA, st1, st2, okS, List.getElem?_cons_zero, List.getElem?_cons_succ, List.length_cons, List.length_nil, List.set_cons_zero, List.set_cons_succ, callP, callF, popN, ct, Value.category, cI, List.getD_cons_zero, List.getD_cons_succ, and_self, and_true, true_and, Nat.zero_le, Nat.reduceLeDiff, Nat.add_zero, Nat.zero_add, List.nil_append, List.cons_append, Option.toList_some, Option.toList_none, List.append_nil, hset_ss, true_or, or_true, eq_self, beq_self_eq_true, List.drop_succ_cons, List.drop_zero, swT, swL, hset_ap, not_true_eq_false, not_false_eq_true, true_implies, false_implies, implies_true, Int32.reduceLE, Int32.reduceLT, Int32.reduceAdd, Int32.reduceSub, Int32.reduceOfInt, Int32.reduceToNatClampNeg, i10, i01, Nat.add_left_cancel_iff, Nat.left_eq_add, Nat.add_eq_left, cdX11_areLike, F1, m.o, m.a8, ix3, Int32.add_zero, nI_1, ix2, i_cl (show 3 * r < 2147483648 by omega), i_cl (show 3 * o < 2147483648 by omega), e0]
    repeat refine ⟨vp_in_nI (by omega) (by omega), ?_⟩
    exact hq
set_option maxRecDepth 100000 in
set_option maxHeartbeats 400000 in
theorem D_total {k : Nat} {s : Int32} (m : MH h c a l) (h7 : c 7 = nI q) (h8 : q ≤ 8) (hk : k < 3) (hv : ∀ i, i < q * 3 → okV (a 8 i)) (hq : Q (some (.int (toF (a 8) s k q))) n h) : Ok 194 [.ref 52, .int s, .int (nI k)] n h Q := by
  refine ok_of kMX11_totalOf kCX11_totalOf (Nat.le_of_ble_eq_true rfl) (fun z => ?_)
  change A z _ _ 0 0 _ 0 [some (.ref 52), some (.int s), some (.int (nI k)), none, none, none] [] _
  refine go_ok okF1 (C := cdX11_totalOf) (by rfl) [5] 40 (by exact Nat.le_of_ble_eq_true rfl) ?_
  simp (maxSteps := 2000000) only [go, stp, inS, ↓reduceIte, Bool.false_eq_true, Nat.reduceLT, Nat.reduceEqDiff, Nat.reduceAdd, ldI, ldL, ldA, st1, st2, okS, List.getElem?_cons_zero, List.getElem?_cons_succ, List.length_cons, List.length_nil, List.set_cons_zero, List.set_cons_succ, callP, callF, popN, ct, Value.category, cI, List.getD_cons_zero, List.getD_cons_succ, and_self, and_true, true_and, Nat.zero_le, Nat.reduceLeDiff, Nat.add_zero, Nat.zero_add, List.nil_append, List.cons_append, Option.toList_some, Option.toList_none, List.append_nil, hset_ss, true_or, or_true, eq_self, beq_self_eq_true, List.drop_succ_cons, List.drop_zero, swT, swL, hset_ap, not_true_eq_false, not_false_eq_true, true_implies, false_implies, implies_true, Int32.reduceLE, Int32.reduceLT, Int32.reduceAdd, Int32.reduceSub, Int32.reduceOfInt, Int32.reduceToNatClampNeg, i10, i01, Nat.add_left_cancel_iff, Nat.left_eq_add, Nat.add_eq_left, cdX11_totalOf, F1]
  have loop : ∀ w r o5, r + w = q → A z 194 n 0 0 h 5 [some (.ref 52), some (.int s), some (.int (nI k)), some (.int (toF (a 8) s k r)), some (.int (nI r)), o5] [] Q := by
    intro w
    induction w with
    | zero =>
      intro r o5 hw
      obtain rfl : r = q := by omega
      refine go_ok okF1 (C := cdX11_totalOf) (by rfl) [] 40 (by exact Nat.le_of_ble_eq_true rfl) ?_
      simp (maxSteps := 2000000) only [go, stp, inS, ↓reduceIte, Bool.false_eq_true, Nat.reduceLT, Nat.reduceEqDiff, Nat.reduceAdd, ldI, ldL, ldA, st1, st2, okS, List.getElem?_cons_zero, List.getElem?_cons_succ, List.length_cons, List.length_nil, List.set_cons_zero, List.set_cons_succ, callP, callF, popN, ct, Value.category, cI, List.getD_cons_zero, List.getD_cons_succ, and_self, and_true, true_and, Nat.zero_le, Nat.reduceLeDiff, Nat.add_zero, Nat.zero_add, List.nil_append, List.cons_append, Option.toList_some, Option.toList_none, List.append_nil, hset_ss, true_or, or_true, eq_self, beq_self_eq_true, List.drop_succ_cons, List.drop_zero, swT, swL, hset_ap, not_true_eq_false, not_false_eq_true, true_implies, false_implies, implies_true, Int32.reduceLE, Int32.reduceLT, Int32.reduceAdd, Int32.reduceSub, Int32.reduceOfInt, Int32.reduceToNatClampNeg, i10, i01, Nat.add_left_cancel_iff, Nat.left_eq_add, Nat.add_eq_left, cdX11_totalOf, F1, m.o, h7, (show nI r ≤ nI r from (i_le (by omega) (by omega)).mpr (by omega))]
      exact hq
    | succ w ih =>
      intro r o5 hw
      have e : ¬ nI q ≤ nI r := by rw [i_le (by omega) (by omega)]; omega
      have hvr := hv (r * 3 + k) (by omega)
      have nx := fun o5 => ih (r + 1) o5 (by omega)
      rw [toF] at nx
      have im : nI (3 * r) + nI k = nI (r * 3 + k) := by rw [nI_add, Nat.mul_comm]
      by_cases hb : bt s r = true
      · by_cases hn : a 8 (r * 3 + k) = -100
        · rw [if_neg (fun w => by rw [hn] at w; exact absurd w.2.1 (by decide))] at nx
          refine go_ok okF1 (C := cdX11_totalOf) (by rfl) [5] 40 (by exact Nat.le_of_ble_eq_true rfl) ?_
          simp (maxSteps := 2000000) only [go, stp, inS, ↓reduceIte, Bool.false_eq_true, Nat.reduceLT, Nat.reduceEqDiff, Nat.reduceAdd, ldI, ldL, ldA, st1, st2, okS, List.getElem?_cons_zero, List.getElem?_cons_succ, List.length_cons, List.length_nil, List.set_cons_zero, List.set_cons_succ, callP, callF, popN, ct, Value.category, cI, List.getD_cons_zero, List.getD_cons_succ, and_self, and_true, true_and, Nat.zero_le, Nat.reduceLeDiff, Nat.add_zero, Nat.zero_add, List.nil_append, List.cons_append, Option.toList_some, Option.toList_none, List.append_nil, hset_ss, true_or, or_true, eq_self, beq_self_eq_true, List.drop_succ_cons, List.drop_zero, swT, swL, hset_ap, not_true_eq_false, not_false_eq_true, true_implies, false_implies, implies_true, Int32.reduceLE, Int32.reduceLT, Int32.reduceAdd, Int32.reduceSub, Int32.reduceOfInt, Int32.reduceToNatClampNeg, i10, i01, Nat.add_left_cancel_iff, Nat.left_eq_add, Nat.add_eq_left, cdX11_totalOf, F1, m.o, h7, e, m.a8, ix3, im, i_cl (show r * 3 + k < 2147483648 by omega), b_ask _ (show r < 32 by omega), hb, hn, nI_1]
          repeat refine ⟨vp_in_nI (by omega) (by omega), ?_⟩
          exact nx _
        · rw [if_pos ⟨hb, hvr.resolve_left hn⟩] at nx
          refine go_ok okF1 (C := cdX11_totalOf) (by rfl) [5] 40 (by exact Nat.le_of_ble_eq_true rfl) ?_
          simp (maxSteps := 2000000) only [go, stp, inS, ↓reduceIte, Bool.false_eq_true, Nat.reduceLT, Nat.reduceEqDiff, Nat.reduceAdd, ldI, ldL, ldA, st1, st2, okS, List.getElem?_cons_zero, List.getElem?_cons_succ, List.length_cons, List.length_nil, List.set_cons_zero, List.set_cons_succ, callP, callF, popN, ct, Value.category, cI, List.getD_cons_zero, List.getD_cons_succ, and_self, and_true, true_and, Nat.zero_le, Nat.reduceLeDiff, Nat.add_zero, Nat.zero_add, List.nil_append, List.cons_append, Option.toList_some, Option.toList_none, List.append_nil, hset_ss, true_or, or_true, eq_self, beq_self_eq_true, List.drop_succ_cons, List.drop_zero, swT, swL, hset_ap, not_true_eq_false, not_false_eq_true, true_implies, false_implies, implies_true, Int32.reduceLE, Int32.reduceLT, Int32.reduceAdd, Int32.reduceSub, Int32.reduceOfInt, Int32.reduceToNatClampNeg, i10, i01, Nat.add_left_cancel_iff, Nat.left_eq_add, Nat.add_eq_left, cdX11_totalOf, F1, m.o, h7, e, m.a8, ix3, im, i_cl (show r * 3 + k < 2147483648 by omega), b_ask _ (show r < 32 by omega), hb, hn, nI_1]
          repeat refine ⟨vp_in_nI (by omega) (by omega), ?_⟩
          exact nx _
      · rw [if_neg (fun w => hb w.1)] at nx
        refine go_ok okF1 (C := cdX11_totalOf) (by rfl) [5] 40 (by exact Nat.le_of_ble_eq_true rfl) ?_
        simp (maxSteps := 2000000) only [go, stp, inS, ↓reduceIte, Bool.false_eq_true, Nat.reduceLT, Nat.reduceEqDiff, Nat.reduceAdd, ldI, ldL, ldA, st1, st2, okS, List.getElem?_cons_zero, List.getElem?_cons_succ, List.length_cons, List.length_nil, List.set_cons_zero, List.set_cons_succ, callP, callF, popN, ct, Value.category, cI, List.getD_cons_zero, List.getD_cons_succ, and_self, and_true, true_and, Nat.zero_le, Nat.reduceLeDiff, Nat.add_zero, Nat.zero_add, List.nil_append, List.cons_append, Option.toList_some, Option.toList_none, List.append_nil, hset_ss, true_or, or_true, eq_self, beq_self_eq_true, List.drop_succ_cons, List.drop_zero, swT, swL, hset_ap, not_true_eq_false, not_false_eq_true, true_implies, false_implies, implies_true, Int32.reduceLE, Int32.reduceLT, Int32.reduceAdd, Int32.reduceSub, Int32.reduceOfInt, Int32.reduceToNatClampNeg, i10, i01, Nat.add_left_cancel_iff, Nat.left_eq_add, Nat.add_eq_left, cdX11_totalOf, F1, m.o, h7, e, m.a8, ix3, im, i_cl (show r * 3 + k < 2147483648 by omega), b_ask _ (show r < 32 by omega), hb, nI_1]
        repeat refine ⟨vp_in_nI (by omega) (by omega), ?_⟩
        exact nx _
  exact loop q 0 _ (by omega)
set_option maxRecDepth 100000 in
set_option maxHeartbeats 400000 in
theorem D_kinds {k : Nat} {s : Int32} (m : MH h c a l) (h7 : c 7 = nI q) (h8 : q ≤ 8) (hk : k < 3) (hq : Q (some (.int (nI (kiN (a 8) s k q)))) n h) : Ok 195 [.ref 52, .int s, .int (nI k)] n h Q := by
  refine ok_of kMX11_kindsOf kCX11_kindsOf (Nat.le_of_ble_eq_true rfl) (fun z => ?_)
  change A z _ _ 0 0 _ 0 [some (.ref 52), some (.int s), some (.int (nI k)), none, none, none, none] [] _
  refine go_ok okF1 (C := cdX11_kindsOf) (by rfl) [5] 40 (by exact Nat.le_of_ble_eq_true rfl) ?_
  simp (maxSteps := 2000000) only [go, stp, inS, ↓reduceIte, Bool.false_eq_true, Nat.reduceLT, Nat.reduceEqDiff, Nat.reduceAdd, ldI, ldL, ldA, st1, st2, okS, List.getElem?_cons_zero, List.getElem?_cons_succ, List.length_cons, List.length_nil, List.set_cons_zero, List.set_cons_succ, callP, callF, popN, ct, Value.category, cI, List.getD_cons_zero, List.getD_cons_succ, and_self, and_true, true_and, Nat.zero_le, Nat.reduceLeDiff, Nat.add_zero, Nat.zero_add, List.nil_append, List.cons_append, Option.toList_some, Option.toList_none, List.append_nil, hset_ss, true_or, or_true, eq_self, beq_self_eq_true, List.drop_succ_cons, List.drop_zero, swT, swL, hset_ap, not_true_eq_false, not_false_eq_true, true_implies, false_implies, implies_true, Int32.reduceLE, Int32.reduceLT, Int32.reduceAdd, Int32.reduceSub, Int32.reduceOfInt, Int32.reduceToNatClampNeg, i10, i01, Nat.add_left_cancel_iff, Nat.left_eq_add, Nat.add_eq_left, cdX11_kindsOf, F1]
  have loop : ∀ w r o5 o6, r + w = q → A z 195 n 0 0 h 5 [some (.ref 52), some (.int s), some (.int (nI k)), some (.int (nI (kiN (a 8) s k r))), some (.int (nI r)), o5, o6] [] Q := by
    intro w
    induction w with
    | zero =>
      intro r o5 o6 hw
      obtain rfl : r = q := by omega
      refine go_ok okF1 (C := cdX11_kindsOf) (by rfl) [] 40 (by exact Nat.le_of_ble_eq_true rfl) ?_
      simp (maxSteps := 2000000) only [go, stp, inS, ↓reduceIte, Bool.false_eq_true, Nat.reduceLT, Nat.reduceEqDiff, Nat.reduceAdd, ldI, ldL, ldA, st1, st2, okS, List.getElem?_cons_zero, List.getElem?_cons_succ, List.length_cons, List.length_nil, List.set_cons_zero, List.set_cons_succ, callP, callF, popN, ct, Value.category, cI, List.getD_cons_zero, List.getD_cons_succ, and_self, and_true, true_and, Nat.zero_le, Nat.reduceLeDiff, Nat.add_zero, Nat.zero_add, List.nil_append, List.cons_append, Option.toList_some, Option.toList_none, List.append_nil, hset_ss, true_or, or_true, eq_self, beq_self_eq_true, List.drop_succ_cons, List.drop_zero, swT, swL, hset_ap, not_true_eq_false, not_false_eq_true, true_implies, false_implies, implies_true, Int32.reduceLE, Int32.reduceLT, Int32.reduceAdd, Int32.reduceSub, Int32.reduceOfInt, Int32.reduceToNatClampNeg, i10, i01, Nat.add_left_cancel_iff, Nat.left_eq_add, Nat.add_eq_left, cdX11_kindsOf, F1, m.o, h7, (show nI r ≤ nI r from (i_le (by omega) (by omega)).mpr (by omega))]
      exact hq
    | succ w ih =>
      intro r o5 o6 hw
      have e : ¬ nI q ≤ nI r := by rw [i_le (by omega) (by omega)]; omega
      have nx := fun o5 o6 => ih (r + 1) o5 o6 (by omega)
      rw [kiN] at nx
      have im : nI (3 * r) + nI k = nI (r * 3 + k) := by rw [nI_add, Nat.mul_comm]
      have inner : ∀ v o b, o + v = r → b = (bt s r && !anyB o (fun o => bt s o && a 8 (o * 3 + k) == a 8 (r * 3 + k))) → A z 195 n 0 0 h 34 [some (.ref 52), some (.int s), some (.int (nI k)), some (.int (nI (kiN (a 8) s k r))), some (.int (nI r)), some (.int (if b = true then 1 else 0)), some (.int (nI o))] [] Q := by
        intro v
        induction v with
        | zero =>
          intro o b ho hb
          obtain rfl : o = r := by omega
          rw [← hb] at nx
          cases b with
          | true =>
            refine go_ok okF1 (C := cdX11_kindsOf) (by rfl) [5] 40 (by exact Nat.le_of_ble_eq_true rfl) ?_
            simp (maxSteps := 2000000) only [go, stp, inS, ↓reduceIte, Bool.false_eq_true, Nat.reduceLT, Nat.reduceEqDiff, Nat.reduceAdd, ldI, ldL, ldA, st1, st2, okS, List.getElem?_cons_zero, List.getElem?_cons_succ, List.length_cons, List.length_nil, List.set_cons_zero, List.set_cons_succ, callP, callF, popN, ct, Value.category, cI, List.getD_cons_zero, List.getD_cons_succ, and_self, and_true, true_and, Nat.zero_le, Nat.reduceLeDiff, Nat.add_zero, Nat.zero_add, List.nil_append, List.cons_append, Option.toList_some, Option.toList_none, List.append_nil, hset_ss, true_or, or_true, eq_self, beq_self_eq_true, List.drop_succ_cons, List.drop_zero, swT, swL, hset_ap, not_true_eq_false, not_false_eq_true, true_implies, false_implies, implies_true, Int32.reduceLE, Int32.reduceLT, Int32.reduceAdd, Int32.reduceSub, Int32.reduceOfInt, Int32.reduceToNatClampNeg, i10, i01, Nat.add_left_cancel_iff, Nat.left_eq_add, Nat.add_eq_left, cdX11_kindsOf, F1, (show nI o ≤ nI o from (i_le (by omega) (by omega)).mpr (by omega)), nI_1]
            exact nx _ _
          | false =>
            refine go_ok okF1 (C := cdX11_kindsOf) (by rfl) [5] 40 (by exact Nat.le_of_ble_eq_true rfl) ?_
            simp (maxSteps := 2000000) only [go, stp, inS, ↓reduceIte, Bool.false_eq_true, Nat.reduceLT, Nat.reduceEqDiff, Nat.reduceAdd, ldI, ldL, ldA, st1, st2, okS, List.getElem?_cons_zero, List.getElem?_cons_succ, List.length_cons, List.length_nil, List.set_cons_zero, List.set_cons_succ, callP, callF, popN, ct, Value.category, cI, List.getD_cons_zero, List.getD_cons_succ, and_self, and_true, true_and, Nat.zero_le, Nat.reduceLeDiff, Nat.add_zero, Nat.zero_add, List.nil_append, List.cons_append, Option.toList_some, Option.toList_none, List.append_nil, hset_ss, true_or, or_true, eq_self, beq_self_eq_true, List.drop_succ_cons, List.drop_zero, swT, swL, hset_ap, not_true_eq_false, not_false_eq_true, true_implies, false_implies, implies_true, Int32.reduceLE, Int32.reduceLT, Int32.reduceAdd, Int32.reduceSub, Int32.reduceOfInt, Int32.reduceToNatClampNeg, i10, i01, Nat.add_left_cancel_iff, Nat.left_eq_add, Nat.add_eq_left, cdX11_kindsOf, F1, (show nI o ≤ nI o from (i_le (by omega) (by omega)).mpr (by omega)), nI_1, Int32.add_zero]
            exact nx _ _
        | succ v ihv =>
          intro o b ho hb
          have e2 : ¬ nI r ≤ nI o := by rw [i_le (by omega) (by omega)]; omega
          have io : nI (3 * o) + nI k = nI (o * 3 + k) := by rw [nI_add, Nat.mul_comm]
          have step := fun b' => ihv (o + 1) b' (by omega)
          rw [anyB] at step
          cases b with
          | false =>
            have := step false (by
              cases h1 : bt s r
              · rfl
              · rw [h1, Bool.true_and] at hb
                cases h2 : anyB o (fun o => bt s o && a 8 (o * 3 + k) == a 8 (r * 3 + k))
                · rw [h2] at hb; cases hb
                · rfl)
            refine go_ok okF1 (C := cdX11_kindsOf) (by rfl) [34] 40 (by exact Nat.le_of_ble_eq_true rfl) ?_
            simp (maxSteps := 2000000) only [go, stp, inS, ↓reduceIte, Bool.false_eq_true, Nat.reduceLT, Nat.reduceEqDiff, Nat.reduceAdd, ldI, ldL, ldA, st1, st2, okS, List.getElem?_cons_zero, List.getElem?_cons_succ, List.length_cons, List.length_nil, List.set_cons_zero, List.set_cons_succ, callP, callF, popN, ct, Value.category, cI, List.getD_cons_zero, List.getD_cons_succ, and_self, and_true, true_and, Nat.zero_le, Nat.reduceLeDiff, Nat.add_zero, Nat.zero_add, List.nil_append, List.cons_append, Option.toList_some, Option.toList_none, List.append_nil, hset_ss, true_or, or_true, eq_self, beq_self_eq_true, List.drop_succ_cons, List.drop_zero, swT, swL, hset_ap, not_true_eq_false, not_false_eq_true, true_implies, false_implies, implies_true, Int32.reduceLE, Int32.reduceLT, Int32.reduceAdd, Int32.reduceSub, Int32.reduceOfInt, Int32.reduceToNatClampNeg, i10, i01, Nat.add_left_cancel_iff, Nat.left_eq_add, Nat.add_eq_left, cdX11_kindsOf, F1, e2, nI_1]
            exact this
          | true =>
            have h1 : bt s r = true := by
              cases h1 : bt s r
              · rw [h1] at hb; cases hb
              · rfl
            have h2 : anyB o (fun o => bt s o && a 8 (o * 3 + k) == a 8 (r * 3 + k)) = false := by
              cases h2 : anyB o (fun o => bt s o && a 8 (o * 3 + k) == a 8 (r * 3 + k))
              · rfl
              · rw [h1, h2] at hb; cases hb
            rw [h1, h2] at step
            by_cases b0 : bt s o = true
            · by_cases b1 : a 8 (o * 3 + k) = a 8 (r * 3 + k)
              · have := step false (by rw [b0, b1]; simp)
                refine go_ok okF1 (C := cdX11_kindsOf) (by rfl) [34] 60 (by exact Nat.le_of_ble_eq_true rfl) ?_
                simp (maxSteps := 2000000) only [go, stp, inS, ↓reduceIte, Bool.false_eq_true, Nat.reduceLT, Nat.reduceEqDiff, Nat.reduceAdd, ldI, ldL, ldA, st1, st2, okS, List.getElem?_cons_zero, List.getElem?_cons_succ, List.length_cons, List.length_nil, List.set_cons_zero, List.set_cons_succ, callP, callF, popN, ct, Value.category, cI, List.getD_cons_zero, List.getD_cons_succ, and_self, and_true, true_and, Nat.zero_le, Nat.reduceLeDiff, Nat.add_zero, Nat.zero_add, List.nil_append, List.cons_append, Option.toList_some, Option.toList_none, List.append_nil, hset_ss, true_or, or_true, eq_self, beq_self_eq_true, List.drop_succ_cons, List.drop_zero, swT, swL, hset_ap, not_true_eq_false, not_false_eq_true, true_implies, false_implies, implies_true, Int32.reduceLE, Int32.reduceLT, Int32.reduceAdd, Int32.reduceSub, Int32.reduceOfInt, Int32.reduceToNatClampNeg, i10, i01, Nat.add_left_cancel_iff, Nat.left_eq_add, Nat.add_eq_left, cdX11_kindsOf, F1, e2, b_ask _ (show o < 32 by omega), b0, m.o, m.a8, ix3, im, io, i_cl (show r * 3 + k < 2147483648 by omega), i_cl (show o * 3 + k < 2147483648 by omega), b1, nI_1]
                repeat refine ⟨vp_in_nI (by omega) (by omega), ?_⟩
                exact this
              · have := step true (by rw [b0]; simp [b1])
                refine go_ok okF1 (C := cdX11_kindsOf) (by rfl) [34] 60 (by exact Nat.le_of_ble_eq_true rfl) ?_
                simp (maxSteps := 2000000) only [go, stp, inS, ↓reduceIte, Bool.false_eq_true, Nat.reduceLT, Nat.reduceEqDiff, Nat.reduceAdd, ldI, ldL, ldA, st1, st2, okS, List.getElem?_cons_zero, List.getElem?_cons_succ, List.length_cons, List.length_nil, List.set_cons_zero, List.set_cons_succ, callP, callF, popN, ct, Value.category, cI, List.getD_cons_zero, List.getD_cons_succ, and_self, and_true, true_and, Nat.zero_le, Nat.reduceLeDiff, Nat.add_zero, Nat.zero_add, List.nil_append, List.cons_append, Option.toList_some, Option.toList_none, List.append_nil, hset_ss, true_or, or_true, eq_self, beq_self_eq_true, List.drop_succ_cons, List.drop_zero, swT, swL, hset_ap, not_true_eq_false, not_false_eq_true, true_implies, false_implies, implies_true, Int32.reduceLE, Int32.reduceLT, Int32.reduceAdd, Int32.reduceSub, Int32.reduceOfInt, Int32.reduceToNatClampNeg, i10, i01, Nat.add_left_cancel_iff, Nat.left_eq_add, Nat.add_eq_left, cdX11_kindsOf, F1, e2, b_ask _ (show o < 32 by omega), b0, m.o, m.a8, ix3, im, io, i_cl (show r * 3 + k < 2147483648 by omega), i_cl (show o * 3 + k < 2147483648 by omega), b1, nI_1]
                repeat refine ⟨vp_in_nI (by omega) (by omega), ?_⟩
                exact this
            · have := step true (by rw [Bool.eq_false_iff.mpr b0]; rfl)
              refine go_ok okF1 (C := cdX11_kindsOf) (by rfl) [34] 60 (by exact Nat.le_of_ble_eq_true rfl) ?_
              simp (maxSteps := 2000000) only [go, stp, inS, ↓reduceIte, Bool.false_eq_true, Nat.reduceLT, Nat.reduceEqDiff, Nat.reduceAdd, ldI, ldL, ldA, st1, st2, okS, List.getElem?_cons_zero, List.getElem?_cons_succ, List.length_cons, List.length_nil, List.set_cons_zero, List.set_cons_succ, callP, callF, popN, ct, Value.category, cI, List.getD_cons_zero, List.getD_cons_succ, and_self, and_true, true_and, Nat.zero_le, Nat.reduceLeDiff, Nat.add_zero, Nat.zero_add, List.nil_append, List.cons_append, Option.toList_some, Option.toList_none, List.append_nil, hset_ss, true_or, or_true, eq_self, beq_self_eq_true, List.drop_succ_cons, List.drop_zero, swT, swL, hset_ap, not_true_eq_false, not_false_eq_true, true_implies, false_implies, implies_true, Int32.reduceLE, Int32.reduceLT, Int32.reduceAdd, Int32.reduceSub, Int32.reduceOfInt, Int32.reduceToNatClampNeg, i10, i01, Nat.add_left_cancel_iff, Nat.left_eq_add, Nat.add_eq_left, cdX11_kindsOf, F1, e2, b_ask _ (show o < 32 by omega), b0, nI_1]
              exact this
      have st := inner r 0 (bt s r) (by omega) (by simp [anyB])
      by_cases hb : bt s r = true
      · rw [if_pos hb] at st
        refine go_ok okF1 (C := cdX11_kindsOf) (by rfl) [34] 40 (by exact Nat.le_of_ble_eq_true rfl) ?_
        simp (maxSteps := 2000000) only [go, stp, inS, ↓reduceIte, Bool.false_eq_true, Nat.reduceLT, Nat.reduceEqDiff, Nat.reduceAdd, ldI, ldL, ldA, st1, st2, okS, List.getElem?_cons_zero, List.getElem?_cons_succ, List.length_cons, List.length_nil, List.set_cons_zero, List.set_cons_succ, callP, callF, popN, ct, Value.category, cI, List.getD_cons_zero, List.getD_cons_succ, and_self, and_true, true_and, Nat.zero_le, Nat.reduceLeDiff, Nat.add_zero, Nat.zero_add, List.nil_append, List.cons_append, Option.toList_some, Option.toList_none, List.append_nil, hset_ss, true_or, or_true, eq_self, beq_self_eq_true, List.drop_succ_cons, List.drop_zero, swT, swL, hset_ap, not_true_eq_false, not_false_eq_true, true_implies, false_implies, implies_true, Int32.reduceLE, Int32.reduceLT, Int32.reduceAdd, Int32.reduceSub, Int32.reduceOfInt, Int32.reduceToNatClampNeg, i10, i01, Nat.add_left_cancel_iff, Nat.left_eq_add, Nat.add_eq_left, cdX11_kindsOf, F1, m.o, h7, e, b_ask _ (show r < 32 by omega), hb]
        exact st
      · rw [if_neg hb] at st
        refine go_ok okF1 (C := cdX11_kindsOf) (by rfl) [34] 40 (by exact Nat.le_of_ble_eq_true rfl) ?_
        simp (maxSteps := 2000000) only [go, stp, inS, ↓reduceIte, Bool.false_eq_true, Nat.reduceLT, Nat.reduceEqDiff, Nat.reduceAdd, ldI, ldL, ldA, st1, st2, okS, List.getElem?_cons_zero, List.getElem?_cons_succ, List.length_cons, List.length_nil, List.set_cons_zero, List.set_cons_succ, callP, callF, popN, ct, Value.category, cI, List.getD_cons_zero, List.getD_cons_succ, and_self, and_true, true_and, Nat.zero_le, Nat.reduceLeDiff, Nat.add_zero, Nat.zero_add, List.nil_append, List.cons_append, Option.toList_some, Option.toList_none, List.append_nil, hset_ss, true_or, or_true, eq_self, beq_self_eq_true, List.drop_succ_cons, List.drop_zero, swT, swL, hset_ap, not_true_eq_false, not_false_eq_true, true_implies, false_implies, implies_true, Int32.reduceLE, Int32.reduceLT, Int32.reduceAdd, Int32.reduceSub, Int32.reduceOfInt, Int32.reduceToNatClampNeg, i10, i01, Nat.add_left_cancel_iff, Nat.left_eq_add, Nat.add_eq_left, cdX11_kindsOf, F1, m.o, h7, e, b_ask _ (show r < 32 by omega), hb]
        exact st
  exact loop q 0 _ _ (by omega)
end MM
