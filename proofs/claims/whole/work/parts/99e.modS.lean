
/-! the model: alone, more -/
theorem ho_alm : ∀ k, k < 12 → hoE (alm (k + 1)) = (1 : Int32) <<< (nI k &&& 31) := by decide +kernel
section MS3
variable {n : Nat} {h : aH} {Q : aQ} {M : MS} {c : Nat → Int32} {a : Nat → Nat → Int32} {l : Nat → Nat → Int64} {g : Nat → Int32} {q o : Nat} {s : pT}
theorem alm_less {k : Nat} (h : k < 8) : alm (k + 1) &&& (hoE (alm (k + 1)) ^^^ (-1)) = alm k := b_ext fun i hi => by
  rw [ho_alm k (by omega), b_and, b_not _ hi, b_alm (by omega) hi, b_alm (by omega) hi, b_pw k (by omega) i hi, Bool.eq_iff_iff]
  simp only [Bool.and_eq_true, Bool.not_eq_true', decide_eq_true_eq, decide_eq_false_iff_not]
  omega
theorem an_less {d : Nat → Bool} {k : Nat} {V : Nat → Nat} (h : k < 8) : anM d g (k + 1) V (alm k) = anM d g k V (alm k) := b_ext fun i hi => by
  unfold anM
  rw [b_mB _ _ (by omega) i hi, b_mB _ _ (by omega) i hi]
  by_cases e : i < k
  · simp [e, show i < k + 1 by omega]
  · by_cases e2 : i = k
    · subst e2
      unfold anB yB
      rw [b_alm (by omega) (by omega)]; simp
    · simp [e, show ¬ i < k + 1 by omega]
theorem lq_2 {k : Nat} (h : k < 8) : lwQ M s g (k + 1) o 2 = !(decide (bcE (wbM M s g k o 0) ≤ bcE (wbM M s g (k + 1) o 0))) := by
  unfold lwQ wbM
  rw [lwR_2 (fun e => by rw [alm_z (by omega)] at e; omega), alm_less h, an_less h]
  rfl
set_option maxRecDepth 100000 in
set_option maxHeartbeats 400000 in
theorem D_more (m : MH h c a l) (k : qs M s q g c a l) (h8 : q ≤ 8) (hk : sOk s) (ho : o < s.1) (hq : ∀ h' c' a', MH h' c' a' l → qs M s q g c' a' l → sOff h h' 52 80 → Q (some (.int (if lwQ M s g q o 2 = true then 1 else 0))) n h') : Ok 209 [.ref 52, .int (nI o)] n h Q := by
  refine ok_of kMX11_quarrelsMore kCX11_quarrelsMore (Nat.le_of_ble_eq_true rfl) (fun z => ?_)
  change A z _ _ 0 0 _ 0 [some (.ref 52), some (.int (nI o)), none, none] [] _
  refine go_ok okF1 (C := cdX11_quarrelsMore) (by rfl) [] 40 (by exact Nat.le_of_ble_eq_true rfl) ?_
  simp (maxSteps := 2000000) only [go, stp, inS, ↓reduceIte, Bool.false_eq_true, Nat.reduceLT, Nat.reduceEqDiff, Nat.reduceAdd, ldI, ldL, ldA, st1, st2, okS, List.getElem?_cons_zero, List.getElem?_cons_succ, List.length_cons, List.length_nil, List.set_cons_zero, List.set_cons_succ, callP, callF, popN, ct, Value.category, cI, List.getD_cons_zero, List.getD_cons_succ, and_self, and_true, true_and, Nat.zero_le, Nat.reduceLeDiff, Nat.add_zero, Nat.zero_add, List.nil_append, List.cons_append, Option.toList_some, Option.toList_none, List.append_nil, hset_ss, true_or, or_true, eq_self, beq_self_eq_true, List.drop_succ_cons, List.drop_zero, swT, swL, hset_ap, not_true_eq_false, not_false_eq_true, true_implies, false_implies, implies_true, Int32.reduceLE, Int32.reduceLT, Int32.reduceAdd, Int32.reduceSub, Int32.reduceOfInt, Int32.reduceToNatClampNeg, i10, i01, Nat.add_left_cancel_iff, Nat.left_eq_add, Nat.add_eq_left, cdX11_quarrelsMore, F1, m.o]
  refine D_whichBy (how := 0) m k h8 hk ho (by omega) (fun h1 c1 a1 m1 k1 ⟨G, L, R, N, hl, hN, he⟩ o1 => ?_)
  refine go_ok okF1 (C := cdX11_quarrelsMore) (by rfl) [] 40 (by exact Nat.le_of_ble_eq_true rfl) ?_
  simp (maxSteps := 2000000) only [go, stp, inS, ↓reduceIte, Bool.false_eq_true, Nat.reduceLT, Nat.reduceEqDiff, Nat.reduceAdd, ldI, ldL, ldA, st1, st2, okS, List.getElem?_cons_zero, List.getElem?_cons_succ, List.length_cons, List.length_nil, List.set_cons_zero, List.set_cons_succ, callP, callF, popN, ct, Value.category, cI, List.getD_cons_zero, List.getD_cons_succ, and_self, and_true, true_and, Nat.zero_le, Nat.reduceLeDiff, Nat.add_zero, Nat.zero_add, List.nil_append, List.cons_append, Option.toList_some, Option.toList_none, List.append_nil, hset_ss, true_or, or_true, eq_self, beq_self_eq_true, List.drop_succ_cons, List.drop_zero, swT, swL, hset_ap, not_true_eq_false, not_false_eq_true, true_implies, false_implies, implies_true, Int32.reduceLE, Int32.reduceLT, Int32.reduceAdd, Int32.reduceSub, Int32.reduceOfInt, Int32.reduceToNatClampNeg, i10, i01, Nat.add_left_cancel_iff, Nat.left_eq_add, Nat.add_eq_left, cdX11_quarrelsMore, F1]
  refine D_onesB (wb_8 h8 _) ?_
  obtain ⟨rd, h7, hg⟩ := id k1
  by_cases q0 : q = 0
  · subst q0
    refine go_ok okF1 (C := cdX11_quarrelsMore) (by rfl) [] 40 (by exact Nat.le_of_ble_eq_true rfl) ?_
    simp (maxSteps := 2000000) only [go, stp, inS, ↓reduceIte, Bool.false_eq_true, Nat.reduceLT, Nat.reduceEqDiff, Nat.reduceAdd, ldI, ldL, ldA, st1, st2, okS, List.getElem?_cons_zero, List.getElem?_cons_succ, List.length_cons, List.length_nil, List.set_cons_zero, List.set_cons_succ, callP, callF, popN, ct, Value.category, cI, List.getD_cons_zero, List.getD_cons_succ, and_self, and_true, true_and, Nat.zero_le, Nat.reduceLeDiff, Nat.add_zero, Nat.zero_add, List.nil_append, List.cons_append, Option.toList_some, Option.toList_none, List.append_nil, hset_ss, true_or, or_true, eq_self, beq_self_eq_true, List.drop_succ_cons, List.drop_zero, swT, swL, hset_ap, not_true_eq_false, not_false_eq_true, true_implies, false_implies, implies_true, Int32.reduceLE, Int32.reduceLT, Int32.reduceAdd, Int32.reduceSub, Int32.reduceOfInt, Int32.reduceToNatClampNeg, i10, i01, Nat.add_left_cancel_iff, Nat.left_eq_add, Nat.add_eq_left, cdX11_quarrelsMore, F1, m1.o, h7, (show nI 0 = 0 from rfl)]
    have := hq h1 c1 a1 m1 k1 o1
    unfold lwQ at this
    rw [(alm_z (by omega)).mpr rfl, lwR_z] at this
    exact this
  · obtain ⟨w, rfl⟩ : ∃ w, q = w + 1 := ⟨q - 1, by omega⟩
    have e0 : ¬ nI (w + 1) = 0 := nI_ne0 (by omega) (by omega)
    refine go_ok okF1 (C := cdX11_quarrelsMore) (by rfl) [] 40 (by exact Nat.le_of_ble_eq_true rfl) ?_
    simp (maxSteps := 2000000) only [go, stp, inS, ↓reduceIte, Bool.false_eq_true, Nat.reduceLT, Nat.reduceEqDiff, Nat.reduceAdd, ldI, ldL, ldA, st1, st2, okS, List.getElem?_cons_zero, List.getElem?_cons_succ, List.length_cons, List.length_nil, List.set_cons_zero, List.set_cons_succ, callP, callF, popN, ct, Value.category, cI, List.getD_cons_zero, List.getD_cons_succ, and_self, and_true, true_and, Nat.zero_le, Nat.reduceLeDiff, Nat.add_zero, Nat.zero_add, List.nil_append, List.cons_append, Option.toList_some, Option.toList_none, List.append_nil, hset_ss, true_or, or_true, eq_self, beq_self_eq_true, List.drop_succ_cons, List.drop_zero, swT, swL, hset_ap, not_true_eq_false, not_false_eq_true, true_implies, false_implies, implies_true, Int32.reduceLE, Int32.reduceLT, Int32.reduceAdd, Int32.reduceSub, Int32.reduceOfInt, Int32.reduceToNatClampNeg, i10, i01, Nat.add_left_cancel_iff, Nat.left_eq_add, Nat.add_eq_left, cdX11_quarrelsMore, F1, m1.o, h7, e0, nI_pred]
    have m2 := m1.sc (upd c1 7 (nI w))
    refine D_whichNow (q := w) m2 hl hN rfl (by omega) (fun h3 v g3 m3 hv o3 => ?_)
    have e1 : anM (bt (upd c1 7 (nI w) 28 &&& upd c1 7 (nI w) 29)) (a1 8) w (fun r => ev (bt (upd c1 7 (nI w) 28 &&& upd c1 7 (nI w) 29)) G N L R (a1 8) r 0) (alm w) = wbM M s g w o 0 := by
      unfold wbM
      rw [hg, show upd c1 7 (nI w) 28 = M.ru from rd.1.ru, show upd c1 7 (nI w) 29 = M.fa from rd.1.fa]
      congr 1
      funext r
      exact he _ _ _
    rw [e1]
    refine go_ok okF1 (C := cdX11_quarrelsMore) (by rfl) [] 40 (by exact Nat.le_of_ble_eq_true rfl) ?_
    simp (maxSteps := 2000000) only [go, stp, inS, ↓reduceIte, Bool.false_eq_true, Nat.reduceLT, Nat.reduceEqDiff, Nat.reduceAdd, ldI, ldL, ldA, st1, st2, okS, List.getElem?_cons_zero, List.getElem?_cons_succ, List.length_cons, List.length_nil, List.set_cons_zero, List.set_cons_succ, callP, callF, popN, ct, Value.category, cI, List.getD_cons_zero, List.getD_cons_succ, and_self, and_true, true_and, Nat.zero_le, Nat.reduceLeDiff, Nat.add_zero, Nat.zero_add, List.nil_append, List.cons_append, Option.toList_some, Option.toList_none, List.append_nil, hset_ss, true_or, or_true, eq_self, beq_self_eq_true, List.drop_succ_cons, List.drop_zero, swT, swL, hset_ap, not_true_eq_false, not_false_eq_true, true_implies, false_implies, implies_true, Int32.reduceLE, Int32.reduceLT, Int32.reduceAdd, Int32.reduceSub, Int32.reduceOfInt, Int32.reduceToNatClampNeg, i10, i01, Nat.add_left_cancel_iff, Nat.left_eq_add, Nat.add_eq_left, cdX11_quarrelsMore, F1]
    refine D_onesB (wb_8 (by omega) _) ?_
    rw [lq_2 (by omega)] at hq
    have mm := m3.sc (upd (upd (upd c1 7 (nI w)) 30 v) 7 (nI (w + 1)))
    have k3 : qs M s (w + 1) g (upd (upd (upd c1 7 (nI w)) 30 v) 7 (nI (w + 1))) (fset a1 31 g3) l := ⟨(((rd.sc 7 _ (by omega)).sc 30 v (by omega)).sc 7 _ (by omega)).sa _ (fun i i1 i2 i3 i4 => fset_n _ _ (by omega)), rfl, hg⟩
    have fin := hq _ _ _ mm k3 (((o1.set (by omega) (by omega)).tr o3).set (by omega) (by omega))
    by_cases e2 : bcE (wbM M s g w o 0) ≤ bcE (wbM M s g (w + 1) o 0)
    · refine go_ok okF1 (C := cdX11_quarrelsMore) (by rfl) [] 40 (by exact Nat.le_of_ble_eq_true rfl) ?_
      simp (maxSteps := 2000000) only [go, stp, inS, ↓reduceIte, Bool.false_eq_true, Nat.reduceLT, Nat.reduceEqDiff, Nat.reduceAdd, ldI, ldL, ldA, st1, st2, okS, List.getElem?_cons_zero, List.getElem?_cons_succ, List.length_cons, List.length_nil, List.set_cons_zero, List.set_cons_succ, callP, callF, popN, ct, Value.category, cI, List.getD_cons_zero, List.getD_cons_succ, and_self, and_true, true_and, Nat.zero_le, Nat.reduceLeDiff, Nat.add_zero, Nat.zero_add, List.nil_append, List.cons_append, Option.toList_some, Option.toList_none, List.append_nil, hset_ss, true_or, or_true, eq_self, beq_self_eq_true, List.drop_succ_cons, List.drop_zero, swT, swL, hset_ap, not_true_eq_false, not_false_eq_true, true_implies, false_implies, implies_true, Int32.reduceLE, Int32.reduceLT, Int32.reduceAdd, Int32.reduceSub, Int32.reduceOfInt, Int32.reduceToNatClampNeg, i10, i01, Nat.add_left_cancel_iff, Nat.left_eq_add, Nat.add_eq_left, cdX11_quarrelsMore, F1, m3.o, (show upd (upd c1 7 (nI w)) 30 v 7 = nI w from rfl), nI_1, eq_true e2]
      rw [decide_eq_true e2] at fin; exact fin
    · refine go_ok okF1 (C := cdX11_quarrelsMore) (by rfl) [] 40 (by exact Nat.le_of_ble_eq_true rfl) ?_
      simp (maxSteps := 2000000) only [go, stp, inS, ↓reduceIte, Bool.false_eq_true, Nat.reduceLT, Nat.reduceEqDiff, Nat.reduceAdd, ldI, ldL, ldA, st1, st2, okS, List.getElem?_cons_zero, List.getElem?_cons_succ, List.length_cons, List.length_nil, List.set_cons_zero, List.set_cons_succ, callP, callF, popN, ct, Value.category, cI, List.getD_cons_zero, List.getD_cons_succ, and_self, and_true, true_and, Nat.zero_le, Nat.reduceLeDiff, Nat.add_zero, Nat.zero_add, List.nil_append, List.cons_append, Option.toList_some, Option.toList_none, List.append_nil, hset_ss, true_or, or_true, eq_self, beq_self_eq_true, List.drop_succ_cons, List.drop_zero, swT, swL, hset_ap, not_true_eq_false, not_false_eq_true, true_implies, false_implies, implies_true, Int32.reduceLE, Int32.reduceLT, Int32.reduceAdd, Int32.reduceSub, Int32.reduceOfInt, Int32.reduceToNatClampNeg, i10, i01, Nat.add_left_cancel_iff, Nat.left_eq_add, Nat.add_eq_left, cdX11_quarrelsMore, F1, m3.o, (show upd (upd c1 7 (nI w)) 30 v 7 = nI w from rfl), nI_1, e2]
      rw [decide_eq_false e2] at fin; exact fin
theorem lq_1 (h8 : q ≤ 8) : lwQ M s g q o 1 = !(wbM M s g q o 0 == mB q (fun r => evS s g (bt (M.ru &&& M.fa)) r o == 1)) := by
  unfold lwQ wbM
  rcases Nat.eq_zero_or_pos q with h0 | h0
  · subst h0; rw [(alm_z (by omega)).mpr rfl, lwR_z, an_0]; rfl
  · rw [lwR_1 (fun e => by rw [alm_z (by omega)] at e; omega)]
    have e : (enc q (fun r => evS s g (bt (M.ru &&& M.fa)) r o) &&& 65535) &&& alm q = mB q (fun r => evS s g (bt (M.ru &&& M.fa)) r o == 1) := b_ext fun i hi => by
      rw [b_and, b_yE (by omega), b_alm (by omega) hi, b_mB _ _ (by omega) i hi]
      by_cases hr : i < q
      · simp [hr]; rfl
      · simp [hr]
    rw [e]
    rfl
theorem an_one {d : Nat → Bool} {g1 : Nat → Int32} {V : Nat → Nat} : (anM d g1 1 V (alm 1) = 1) ↔ V 0 = 1 := by
  have e : anM d g1 1 V (alm 1) = if V 0 = 1 then 1 else 0 := b_ext fun i hi => by
    unfold anM
    rw [b_mB _ _ (by omega) i hi, b_ite, b_0, b_1 i hi]
    by_cases h0 : i = 0
    · subst h0
      unfold anB yB rpB anyB
      rw [b_alm (by omega) (by omega)]
      by_cases v : V 0 = 1
      · simp [v]
      · simp [v]
    · simp [h0]
  rw [e]
  by_cases v : V 0 = 1
  · simp [v]
  · simp [v]
theorem ld.fr {G L R : Nat → Int32} {N : Nat} {c' : Nat → Int32} {a' : Nat → Nat → Int32} (hl : ld c a G L R N) (h21 : c' 21 = c 21) (ha : ∀ i, 22 ≤ i → i < 28 → a' i = a i) : ld c' a' G L R N := by
  obtain ⟨h1, h2, h3, h4, h5⟩ := hl
  refine ⟨by rw [h21]; exact h1, h2, h3, fun k hk => ?_, fun k hk => by rw [ha 27 (by omega) (by omega)]; exact h5 k hk⟩
  rw [ha 22 (by omega) (by omega), ha 23 (by omega) (by omega), ha 24 (by omega) (by omega), ha 25 (by omega) (by omega), ha 26 (by omega) (by omega)]
  exact h4 k hk
def fcA (c c' : Nat → Int32) : Prop := ∀ i, i ≠ 7 → i ≠ 30 → c' i = c i
def faA (a a' : Nat → Nat → Int32) : Prop := ∀ i, i ≠ 8 → i ≠ 31 → i ≠ 32 → a' i = a i
theorem rdy.fr {c' : Nat → Int32} {a' : Nat → Nat → Int32} (h : rdy M s c a l) (hc : fcA c c') (ha : faA a a') : rdy M s c' a' l := by
  obtain ⟨r, s1, s2, s3, s4⟩ := h
  refine ⟨r.fr (hc 4 (by omega) (by omega)) (hc 5 (by omega) (by omega)) (hc 28 (by omega) (by omega)) (hc 29 (by omega) (by omega)) (ha 0 (by omega) (by omega) (by omega)) (ha 1 (by omega) (by omega) (by omega)) (ha 6 (by omega) (by omega) (by omega)) (ha 9 (by omega) (by omega) (by omega)) (ha 10 (by omega) (by omega) (by omega)) (ha 40 (by omega) (by omega) (by omega)), ⟨fun k hk => ?_, fun k hk => by rw [ha 18 (by omega) (by omega) (by omega)]; exact s1.2 k hk⟩, by rw [hc 12 (by omega) (by omega)]; exact s2, by rw [hc 33 (by omega) (by omega)]; exact s3, by rw [hc 34 (by omega) (by omega)]; exact s4⟩
  rw [ha 13 (by omega) (by omega) (by omega), ha 14 (by omega) (by omega) (by omega), ha 15 (by omega) (by omega) (by omega), ha 16 (by omega) (by omega) (by omega), ha 17 (by omega) (by omega) (by omega)]
  exact s1.1 k hk
set_option maxRecDepth 100000 in
set_option maxHeartbeats 400000 in
theorem D_alone (m : MH h c a l) (k : qs M s q g c a l) (h8 : q ≤ 8) (hk : sOk s) (ho : o < s.1) (hq : ∀ h' c' a', MH h' c' a' l → qs M s q g c' a' l → sOff h h' 52 80 → Q (some (.int (if lwQ M s g q o 1 = true then 1 else 0))) n h') : Ok 208 [.ref 52, .int (nI o)] n h Q := by
  rw [lq_1 h8] at hq
  refine ok_of kMX11_quarrelsAlone kCX11_quarrelsAlone (Nat.le_of_ble_eq_true rfl) (fun z => ?_)
  change A z _ _ 0 0 _ 0 [some (.ref 52), some (.int (nI o)), none, none, none, none, none] [] _
  refine go_ok okF1 (C := cdX11_quarrelsAlone) (by rfl) [] 40 (by exact Nat.le_of_ble_eq_true rfl) ?_
  simp (maxSteps := 2000000) only [go, stp, inS, ↓reduceIte, Bool.false_eq_true, Nat.reduceLT, Nat.reduceEqDiff, Nat.reduceAdd, ldI, ldL, ldA, st1, st2, okS, List.getElem?_cons_zero, List.getElem?_cons_succ, List.length_cons, List.length_nil, List.set_cons_zero, List.set_cons_succ, callP, callF, popN, ct, Value.category, cI, List.getD_cons_zero, List.getD_cons_succ, and_self, and_true, true_and, Nat.zero_le, Nat.reduceLeDiff, Nat.add_zero, Nat.zero_add, List.nil_append, List.cons_append, Option.toList_some, Option.toList_none, List.append_nil, hset_ss, true_or, or_true, eq_self, beq_self_eq_true, List.drop_succ_cons, List.drop_zero, swT, swL, hset_ap, not_true_eq_false, not_false_eq_true, true_implies, false_implies, implies_true, Int32.reduceLE, Int32.reduceLT, Int32.reduceAdd, Int32.reduceSub, Int32.reduceOfInt, Int32.reduceToNatClampNeg, i10, i01, Nat.add_left_cancel_iff, Nat.left_eq_add, Nat.add_eq_left, cdX11_quarrelsAlone, F1, m.o]
  refine D_whichBy (how := 0) m k h8 hk ho (by omega) (fun h1 c1 a1 m1 k1 ⟨G, L, R, N, hl, hN, he⟩ o1 => ?_)
  obtain ⟨rd, h7, hg⟩ := id k1
  generalize wbM M s g q o 0 = wb at hq ⊢
  generalize hbb : mB q (fun r => evS s g (bt (M.ru &&& M.fa)) r o == 1) = bb at hq
  refine go_ok okF1 (C := cdX11_quarrelsAlone) (by rfl) [18] 40 (by exact Nat.le_of_ble_eq_true rfl) ?_
  simp (maxSteps := 2000000) only [go, stp, inS, ↓reduceIte, Bool.false_eq_true, Nat.reduceLT, Nat.reduceEqDiff, Nat.reduceAdd, ldI, ldL, ldA, st1, st2, okS, List.getElem?_cons_zero, List.getElem?_cons_succ, List.length_cons, List.length_nil, List.set_cons_zero, List.set_cons_succ, callP, callF, popN, ct, Value.category, cI, List.getD_cons_zero, List.getD_cons_succ, and_self, and_true, true_and, Nat.zero_le, Nat.reduceLeDiff, Nat.add_zero, Nat.zero_add, List.nil_append, List.cons_append, Option.toList_some, Option.toList_none, List.append_nil, hset_ss, true_or, or_true, eq_self, beq_self_eq_true, List.drop_succ_cons, List.drop_zero, swT, swL, hset_ap, not_true_eq_false, not_false_eq_true, true_implies, false_implies, implies_true, Int32.reduceLE, Int32.reduceLT, Int32.reduceAdd, Int32.reduceSub, Int32.reduceOfInt, Int32.reduceToNatClampNeg, i10, i01, Nat.add_left_cancel_iff, Nat.left_eq_add, Nat.add_eq_left, cdX11_quarrelsAlone, F1, m1.o, h7]
  -- cells come back
  have back : ∀ w k h' c' a' o6, k + w = 24 → MH h' c' a' l → fcA c1 c' → c' 7 = nI q → faA a1 a' → (∀ j, j < 24 → a' 32 j = g j) → (∀ j, j < k ∨ 3 ≤ j → a' 8 j = g j) → sOff h h' 52 80 → A z 208 n 0 0 h' 128 [some (.ref 52), some (.int (nI o)), some (.int wb), some (.int (nI q)), some (.int bb), some (.int (nI k)), o6] [] Q := by
    intro w
    induction w with
    | zero =>
      intro k h' c' a' o6 hw m' fc c7 fa k32 k8 hO
      obtain rfl : k = 24 := by omega
      have fin := hq h' c' a' m' ⟨rd.fr fc fa, c7, funext fun j => k8 j (by omega)⟩ hO
      by_cases e : bb = wb
      · refine go_ok okF1 (C := cdX11_quarrelsAlone) (by rfl) [] 40 (by exact Nat.le_of_ble_eq_true rfl) ?_
        simp (maxSteps := 2000000) only [go, stp, inS, ↓reduceIte, Bool.false_eq_true, Nat.reduceLT, Nat.reduceEqDiff, Nat.reduceAdd, ldI, ldL, ldA, st1, st2, okS, List.getElem?_cons_zero, List.getElem?_cons_succ, List.length_cons, List.length_nil, List.set_cons_zero, List.set_cons_succ, callP, callF, popN, ct, Value.category, cI, List.getD_cons_zero, List.getD_cons_succ, and_self, and_true, true_and, Nat.zero_le, Nat.reduceLeDiff, Nat.add_zero, Nat.zero_add, List.nil_append, List.cons_append, Option.toList_some, Option.toList_none, List.append_nil, hset_ss, true_or, or_true, eq_self, beq_self_eq_true, List.drop_succ_cons, List.drop_zero, swT, swL, hset_ap, not_true_eq_false, not_false_eq_true, true_implies, false_implies, implies_true, Int32.reduceLE, Int32.reduceLT, Int32.reduceAdd, Int32.reduceSub, Int32.reduceOfInt, Int32.reduceToNatClampNeg, i10, i01, Nat.add_left_cancel_iff, Nat.left_eq_add, Nat.add_eq_left, cdX11_quarrelsAlone, F1, (show (24 : Int32) ≤ nI 24 by decide), e]
        rw [e] at fin
        simpa using fin
      · refine go_ok okF1 (C := cdX11_quarrelsAlone) (by rfl) [] 40 (by exact Nat.le_of_ble_eq_true rfl) ?_
        simp (maxSteps := 2000000) only [go, stp, inS, ↓reduceIte, Bool.false_eq_true, Nat.reduceLT, Nat.reduceEqDiff, Nat.reduceAdd, ldI, ldL, ldA, st1, st2, okS, List.getElem?_cons_zero, List.getElem?_cons_succ, List.length_cons, List.length_nil, List.set_cons_zero, List.set_cons_succ, callP, callF, popN, ct, Value.category, cI, List.getD_cons_zero, List.getD_cons_succ, and_self, and_true, true_and, Nat.zero_le, Nat.reduceLeDiff, Nat.add_zero, Nat.zero_add, List.nil_append, List.cons_append, Option.toList_some, Option.toList_none, List.append_nil, hset_ss, true_or, or_true, eq_self, beq_self_eq_true, List.drop_succ_cons, List.drop_zero, swT, swL, hset_ap, not_true_eq_false, not_false_eq_true, true_implies, false_implies, implies_true, Int32.reduceLE, Int32.reduceLT, Int32.reduceAdd, Int32.reduceSub, Int32.reduceOfInt, Int32.reduceToNatClampNeg, i10, i01, Nat.add_left_cancel_iff, Nat.left_eq_add, Nat.add_eq_left, cdX11_quarrelsAlone, F1, (show (24 : Int32) ≤ nI 24 by decide), e]
        have : ¬ wb = bb := fun w => e w.symm
        simpa [this] using fin
    | succ w ih =>
      intro k h' c' a' o6 hw m' fc c7 fa k32 k8 hO
      have e : ¬ 24 ≤ nI k := by rw [show (24 : Int32) = nI 24 from rfl, i_le (by omega) (by omega)]; omega
      refine go_ok okF1 (C := cdX11_quarrelsAlone) (by rfl) [128] 40 (by exact Nat.le_of_ble_eq_true rfl) ?_
      simp (maxSteps := 2000000) only [go, stp, inS, ↓reduceIte, Bool.false_eq_true, Nat.reduceLT, Nat.reduceEqDiff, Nat.reduceAdd, ldI, ldL, ldA, st1, st2, okS, List.getElem?_cons_zero, List.getElem?_cons_succ, List.length_cons, List.length_nil, List.set_cons_zero, List.set_cons_succ, callP, callF, popN, ct, Value.category, cI, List.getD_cons_zero, List.getD_cons_succ, and_self, and_true, true_and, Nat.zero_le, Nat.reduceLeDiff, Nat.add_zero, Nat.zero_add, List.nil_append, List.cons_append, Option.toList_some, Option.toList_none, List.append_nil, hset_ss, true_or, or_true, eq_self, beq_self_eq_true, List.drop_succ_cons, List.drop_zero, swT, swL, hset_ap, not_true_eq_false, not_false_eq_true, true_implies, false_implies, implies_true, Int32.reduceLE, Int32.reduceLT, Int32.reduceAdd, Int32.reduceSub, Int32.reduceOfInt, Int32.reduceToNatClampNeg, i10, i01, Nat.add_left_cancel_iff, Nat.left_eq_add, Nat.add_eq_left, cdX11_quarrelsAlone, F1, e, m'.o, m'.a8, m'.a32, i_cl (show k < 2147483648 by omega), nI_1]
      repeat refine ⟨vp_in_nI (by omega) (by omega), ?_⟩
      refine ih (k + 1) _ c' _ _ (by omega) (m'.s8 (upd (a' 8) k (a' 32 k))) fc c7 (fun i i1 i2 i3 => by rw [fset_n _ _ i1]; exact fa i i1 i2 i3) k32 (fun j hj => ?_) (hO.set (by omega) (by omega))
      show upd (a' 8) k (a' 32 k) j = g j
      by_cases ej : j = k
      · subst ej; rw [pk_us]; exact k32 j (by omega)
      · rw [pk_un ej]; exact k8 j (by omega)
  -- each row alone
  have rows : ∀ w r h' c' a' o6, r + w = q → MH h' c' a' l → fcA c1 c' → c' 7 = nI 1 → faA a1 a' → (∀ j, j < 24 → a' 32 j = g j) → (∀ j, 3 ≤ j → a' 8 j = g j) → sOff h h' 52 80 → A z 208 n 0 0 h' 53 [some (.ref 52), some (.int (nI o)), some (.int wb), some (.int (nI q)), some (.int (mB r (fun r => evS s g (bt (M.ru &&& M.fa)) r o == 1))), some (.int (nI r)), o6] [] Q := by
    intro w
    induction w with
    | zero =>
      intro r h' c' a' o6 hw m' fc c7 fa k32 k8 hO
      obtain rfl : r = q := by omega
      refine go_ok okF1 (C := cdX11_quarrelsAlone) (by rfl) [128] 40 (by exact Nat.le_of_ble_eq_true rfl) ?_
      simp (maxSteps := 2000000) only [go, stp, inS, ↓reduceIte, Bool.false_eq_true, Nat.reduceLT, Nat.reduceEqDiff, Nat.reduceAdd, ldI, ldL, ldA, st1, st2, okS, List.getElem?_cons_zero, List.getElem?_cons_succ, List.length_cons, List.length_nil, List.set_cons_zero, List.set_cons_succ, callP, callF, popN, ct, Value.category, cI, List.getD_cons_zero, List.getD_cons_succ, and_self, and_true, true_and, Nat.zero_le, Nat.reduceLeDiff, Nat.add_zero, Nat.zero_add, List.nil_append, List.cons_append, Option.toList_some, Option.toList_none, List.append_nil, hset_ss, true_or, or_true, eq_self, beq_self_eq_true, List.drop_succ_cons, List.drop_zero, swT, swL, hset_ap, not_true_eq_false, not_false_eq_true, true_implies, false_implies, implies_true, Int32.reduceLE, Int32.reduceLT, Int32.reduceAdd, Int32.reduceSub, Int32.reduceOfInt, Int32.reduceToNatClampNeg, i10, i01, Nat.add_left_cancel_iff, Nat.left_eq_add, Nat.add_eq_left, cdX11_quarrelsAlone, F1, m'.o, (show nI r ≤ nI r from (i_le (by omega) (by omega)).mpr (by omega))]
      rw [hbb]
      exact back 24 0 _ (upd c' 7 (nI r)) a' _ (by omega) (m'.sc (upd c' 7 (nI r))) (fun i i1 i2 => by rw [pk_un i1]; exact fc i i1 i2) rfl fa k32 (fun j hj => k8 j (by omega)) (hO.set (by omega) (by omega))
    | succ w ih =>
      intro r h' c' a' o6 hw m' fc c7 fa k32 k8 hO
      have e : ¬ nI q ≤ nI r := by rw [i_le (by omega) (by omega)]; omega
      refine go_ok okF1 (C := cdX11_quarrelsAlone) (by rfl) [] 90 (by exact Nat.le_of_ble_eq_true rfl) ?_
      simp (maxSteps := 2000000) only [go, stp, inS, ↓reduceIte, Bool.false_eq_true, Nat.reduceLT, Nat.reduceEqDiff, Nat.reduceAdd, ldI, ldL, ldA, st1, st2, okS, List.getElem?_cons_zero, List.getElem?_cons_succ, List.length_cons, List.length_nil, List.set_cons_zero, List.set_cons_succ, callP, callF, popN, ct, Value.category, cI, List.getD_cons_zero, List.getD_cons_succ, and_self, and_true, true_and, Nat.zero_le, Nat.reduceLeDiff, Nat.add_zero, Nat.zero_add, List.nil_append, List.cons_append, Option.toList_some, Option.toList_none, List.append_nil, hset_ss, true_or, or_true, eq_self, beq_self_eq_true, List.drop_succ_cons, List.drop_zero, swT, swL, hset_ap, not_true_eq_false, not_false_eq_true, true_implies, false_implies, implies_true, Int32.reduceLE, Int32.reduceLT, Int32.reduceAdd, Int32.reduceSub, Int32.reduceOfInt, Int32.reduceToNatClampNeg, i10, i01, Nat.add_left_cancel_iff, Nat.left_eq_add, Nat.add_eq_left, cdX11_quarrelsAlone, F1, e, m'.o, m'.a8, m'.a32, ix3, Int32.add_zero, nI_1, ix2, i_cl (show 3 * r < 2147483648 by omega), i_cl (show 3 * r + 1 < 2147483648 by omega), i_cl (show 3 * r + 2 < 2147483648 by omega), k32 (3 * r) (by omega), k32 (3 * r + 1) (by omega), k32 (3 * r + 2) (by omega)]
      refine ⟨vp_in_nI (by omega) (by omega), vp_in_nI (n := 0) (by omega) (by omega), vp_in_nI (by omega) (by omega), vp_in_nI (n := 1) (by omega) (by omega), vp_in_nI (by omega) (by omega), vp_in_nI (n := 2) (by omega) (by omega), ?_⟩
      have m2 := m'.s8 (upd (upd (upd (a' 8) 0 (g (3 * r))) 1 (g (3 * r + 1))) 2 (g (3 * r + 2)))
      have hl2 : ld c' (fset a' 8 (upd (upd (upd (a' 8) 0 (g (3 * r))) 1 (g (3 * r + 1))) 2 (g (3 * r + 2)))) G L R N := hl.fr (fc 21 (by omega) (by omega)) (fun i i1 i2 => by rw [fset_n _ _ (by omega)]; exact fa i (by omega) (by omega) (by omega))
      refine D_whichNow m2 hl2 hN c7 (by omega) (fun h3 v g3 m3 hv o3 => ?_)
      have cru : c' 28 = M.ru := (fc 28 (by omega) (by omega)).trans rd.1.ru
      have cfa : c' 29 = M.fa := (fc 29 (by omega) (by omega)).trans rd.1.fa
      have e1 := an_one (d := bt (c' 28 &&& c' 29)) (g1 := fset a' 8 (upd (upd (upd (a' 8) 0 (g (3 * r))) 1 (g (3 * r + 1))) 2 (g (3 * r + 2))) 8) (V := fun r' => ev (bt (c' 28 &&& c' 29)) G N L R (fset a' 8 (upd (upd (upd (a' 8) 0 (g (3 * r))) 1 (g (3 * r + 1))) 2 (g (3 * r + 2))) 8) r' 0)
      have e2 : ev (bt (c' 28 &&& c' 29)) G N L R (fset a' 8 (upd (upd (upd (a' 8) 0 (g (3 * r))) 1 (g (3 * r + 1))) 2 (g (3 * r + 2))) 8) 0 0 = evS s g (bt (M.ru &&& M.fa)) r o := by
        rw [he, cru, cfa]
        show evS s (upd (upd (upd (a' 8) 0 (g (3 * r))) 1 (g (3 * r + 1))) 2 (g (3 * r + 2))) (bt (M.ru &&& M.fa)) 0 o = _
        refine evS_row hk (fun j hj => ?_) ho
        rw [Nat.mul_comm r 3]
        rcases (by omega : j = 0 ∨ j = 1 ∨ j = 2) with rfl | rfl | rfl
        · rw [pk_un (by omega), pk_un (by omega)]; exact pk_us
        · rw [pk_un (by omega)]; exact pk_us
        · exact pk_us
      rw [e2] at e1
      have hm3 : MH h3 (upd c' 30 v) (fset (fset a' 8 (upd (upd (upd (a' 8) 0 (g (3 * r))) 1 (g (3 * r + 1))) 2 (g (3 * r + 2)))) 31 g3) l := m3
      have nx := fun o6 => ih (r + 1) h3 (upd c' 30 v) _ o6 (by omega) hm3 (fun i i1 i2 => by rw [pk_un i2]; exact fc i i1 i2) c7 (fun i i1 i2 i3 => by rw [fset_n _ _ i2, fset_n _ _ i1]; exact fa i i1 i2 i3) k32 (fun j hj => by
        show upd (upd (upd (a' 8) 0 (g (3 * r))) 1 (g (3 * r + 1))) 2 (g (3 * r + 2)) j = g j
        rw [pk_un (by omega), pk_un (by omega), pk_un (by omega)]; exact k8 j hj) ((hO.set (by omega) (by omega)).tr o3)
      rw [mB_add (by omega)] at nx
      by_cases ev1 : evS s g (bt (M.ru &&& M.fa)) r o = 1
      · rw [if_pos (by rw [ev1]; rfl)] at nx
        refine go_ok okF1 (C := cdX11_quarrelsAlone) (by rfl) [53] 60 (by exact Nat.le_of_ble_eq_true rfl) ?_
        simp (maxSteps := 2000000) only [go, stp, inS, ↓reduceIte, Bool.false_eq_true, Nat.reduceLT, Nat.reduceEqDiff, Nat.reduceAdd, ldI, ldL, ldA, st1, st2, okS, List.getElem?_cons_zero, List.getElem?_cons_succ, List.length_cons, List.length_nil, List.set_cons_zero, List.set_cons_succ, callP, callF, popN, ct, Value.category, cI, List.getD_cons_zero, List.getD_cons_succ, and_self, and_true, true_and, Nat.zero_le, Nat.reduceLeDiff, Nat.add_zero, Nat.zero_add, List.nil_append, List.cons_append, Option.toList_some, Option.toList_none, List.append_nil, hset_ss, true_or, or_true, eq_self, beq_self_eq_true, List.drop_succ_cons, List.drop_zero, swT, swL, hset_ap, not_true_eq_false, not_false_eq_true, true_implies, false_implies, implies_true, Int32.reduceLE, Int32.reduceLT, Int32.reduceAdd, Int32.reduceSub, Int32.reduceOfInt, Int32.reduceToNatClampNeg, i10, i01, Nat.add_left_cancel_iff, Nat.left_eq_add, Nat.add_eq_left, cdX11_quarrelsAlone, F1, eq_true (e1.mpr ev1), nI_1]
        exact nx _
      · rw [if_neg (by simpa using ev1)] at nx
        refine go_ok okF1 (C := cdX11_quarrelsAlone) (by rfl) [53] 60 (by exact Nat.le_of_ble_eq_true rfl) ?_
        simp (maxSteps := 2000000) only [go, stp, inS, ↓reduceIte, Bool.false_eq_true, Nat.reduceLT, Nat.reduceEqDiff, Nat.reduceAdd, ldI, ldL, ldA, st1, st2, okS, List.getElem?_cons_zero, List.getElem?_cons_succ, List.length_cons, List.length_nil, List.set_cons_zero, List.set_cons_succ, callP, callF, popN, ct, Value.category, cI, List.getD_cons_zero, List.getD_cons_succ, and_self, and_true, true_and, Nat.zero_le, Nat.reduceLeDiff, Nat.add_zero, Nat.zero_add, List.nil_append, List.cons_append, Option.toList_some, Option.toList_none, List.append_nil, hset_ss, true_or, or_true, eq_self, beq_self_eq_true, List.drop_succ_cons, List.drop_zero, swT, swL, hset_ap, not_true_eq_false, not_false_eq_true, true_implies, false_implies, implies_true, Int32.reduceLE, Int32.reduceLT, Int32.reduceAdd, Int32.reduceSub, Int32.reduceOfInt, Int32.reduceToNatClampNeg, i10, i01, Nat.add_left_cancel_iff, Nat.left_eq_add, Nat.add_eq_left, cdX11_quarrelsAlone, F1, eq_false (fun w => ev1 (e1.mp w)), nI_1]
        exact nx _
  have keep : ∀ w k h' a', k + w = 24 → MH h' c1 a' l → faA a1 a' → a' 8 = g → (∀ j, j < k → a' 32 j = g j) → sOff h h' 52 80 → A z 208 n 0 0 h' 18 [some (.ref 52), some (.int (nI o)), some (.int wb), some (.int (nI q)), some (.int 0), some (.int (nI k)), none] [] Q := by
    intro w
    induction w with
    | zero =>
      intro k h' a' hw m' fa k8 k32 hO
      obtain rfl : k = 24 := by omega
      refine go_ok okF1 (C := cdX11_quarrelsAlone) (by rfl) [53] 40 (by exact Nat.le_of_ble_eq_true rfl) ?_
      simp (maxSteps := 2000000) only [go, stp, inS, ↓reduceIte, Bool.false_eq_true, Nat.reduceLT, Nat.reduceEqDiff, Nat.reduceAdd, ldI, ldL, ldA, st1, st2, okS, List.getElem?_cons_zero, List.getElem?_cons_succ, List.length_cons, List.length_nil, List.set_cons_zero, List.set_cons_succ, callP, callF, popN, ct, Value.category, cI, List.getD_cons_zero, List.getD_cons_succ, and_self, and_true, true_and, Nat.zero_le, Nat.reduceLeDiff, Nat.add_zero, Nat.zero_add, List.nil_append, List.cons_append, Option.toList_some, Option.toList_none, List.append_nil, hset_ss, true_or, or_true, eq_self, beq_self_eq_true, List.drop_succ_cons, List.drop_zero, swT, swL, hset_ap, not_true_eq_false, not_false_eq_true, true_implies, false_implies, implies_true, Int32.reduceLE, Int32.reduceLT, Int32.reduceAdd, Int32.reduceSub, Int32.reduceOfInt, Int32.reduceToNatClampNeg, i10, i01, Nat.add_left_cancel_iff, Nat.left_eq_add, Nat.add_eq_left, cdX11_quarrelsAlone, F1, (show (24 : Int32) ≤ nI 24 by decide), m'.o]
      exact rows q 0 _ (upd c1 7 1) a' _ (by omega) (m'.sc (upd c1 7 1)) (fun i i1 i2 => pk_un i1) rfl fa k32 (fun j _ => by rw [k8]) (hO.set (by omega) (by omega))
    | succ w ih =>
      intro k h' a' hw m' fa k8 k32 hO
      have e : ¬ 24 ≤ nI k := by rw [show (24 : Int32) = nI 24 from rfl, i_le (by omega) (by omega)]; omega
      refine go_ok okF1 (C := cdX11_quarrelsAlone) (by rfl) [18] 40 (by exact Nat.le_of_ble_eq_true rfl) ?_
      simp (maxSteps := 2000000) only [go, stp, inS, ↓reduceIte, Bool.false_eq_true, Nat.reduceLT, Nat.reduceEqDiff, Nat.reduceAdd, ldI, ldL, ldA, st1, st2, okS, List.getElem?_cons_zero, List.getElem?_cons_succ, List.length_cons, List.length_nil, List.set_cons_zero, List.set_cons_succ, callP, callF, popN, ct, Value.category, cI, List.getD_cons_zero, List.getD_cons_succ, and_self, and_true, true_and, Nat.zero_le, Nat.reduceLeDiff, Nat.add_zero, Nat.zero_add, List.nil_append, List.cons_append, Option.toList_some, Option.toList_none, List.append_nil, hset_ss, true_or, or_true, eq_self, beq_self_eq_true, List.drop_succ_cons, List.drop_zero, swT, swL, hset_ap, not_true_eq_false, not_false_eq_true, true_implies, false_implies, implies_true, Int32.reduceLE, Int32.reduceLT, Int32.reduceAdd, Int32.reduceSub, Int32.reduceOfInt, Int32.reduceToNatClampNeg, i10, i01, Nat.add_left_cancel_iff, Nat.left_eq_add, Nat.add_eq_left, cdX11_quarrelsAlone, F1, e, m'.o, m'.a8, m'.a32, i_cl (show k < 2147483648 by omega), nI_1]
      repeat refine ⟨vp_in_nI (by omega) (by omega), ?_⟩
      refine ih (k + 1) _ _ (by omega) (m'.s32 (upd (a' 32) k (a' 8 k))) (fun i i1 i2 i3 => by rw [fset_n _ _ i3]; exact fa i i1 i2 i3) k8 (fun j hj => ?_) (hO.set (by omega) (by omega))
      show upd (a' 32) k (a' 8 k) j = g j
      by_cases ej : j = k
      · subst ej; rw [pk_us, k8]
      · rw [pk_un ej]; exact k32 j (by omega)
  exact keep 24 0 h1 a1 (by omega) m1 (fun _ _ _ _ => rfl) hg (fun j hj => absurd hj (by omega)) o1
set_option maxRecDepth 100000 in
set_option maxHeartbeats 400000 in
theorem D_qFrom {law : Nat} (m : MH h c a l) (k : qs M s q g c a l) (h8 : q ≤ 8) (hk : sOk s) (ho : o < s.1) (hv : ∀ i, i < q * 3 → okV (g i)) (hlaw : law < 7) (hq : ∀ h' c' a', MH h' c' a' l → qs M s q g c' a' l → sOff h h' 52 80 → Q (some (.int (if lwQ M s g q o law = true then 1 else 0))) n h') : Ok 210 [.ref 52, .int (nI law), .int (nI o)] n h Q := by
  refine ok_of kMX11_quarrelsFrom kCX11_quarrelsFrom (Nat.le_of_ble_eq_true rfl) (fun z => ?_)
  change A z _ _ 0 0 _ 0 [some (.ref 52), some (.int (nI law)), some (.int (nI o))] [] _
  have bo : ∀ b : Bool, ((if b = true then (1 : Int32) else 0) = 0 ∨ (if b = true then (1 : Int32) else 0) = 1) := fun b => by cases b <;> simp
  by_cases l1 : law = 1
  · subst l1
    refine go_ok okF1 (C := cdX11_quarrelsFrom) (by rfl) [] 40 (by exact Nat.le_of_ble_eq_true rfl) ?_
    simp (maxSteps := 2000000) only [go, stp, inS, ↓reduceIte, Bool.false_eq_true, Nat.reduceLT, Nat.reduceEqDiff, Nat.reduceAdd, ldI, ldL, ldA, st1, st2, okS, List.getElem?_cons_zero, List.getElem?_cons_succ, List.length_cons, List.length_nil, List.set_cons_zero, List.set_cons_succ, callP, callF, popN, ct, Value.category, cI, List.getD_cons_zero, List.getD_cons_succ, and_self, and_true, true_and, Nat.zero_le, Nat.reduceLeDiff, Nat.add_zero, Nat.zero_add, List.nil_append, List.cons_append, Option.toList_some, Option.toList_none, List.append_nil, hset_ss, true_or, or_true, eq_self, beq_self_eq_true, List.drop_succ_cons, List.drop_zero, swT, swL, hset_ap, not_true_eq_false, not_false_eq_true, true_implies, false_implies, implies_true, Int32.reduceLE, Int32.reduceLT, Int32.reduceAdd, Int32.reduceSub, Int32.reduceOfInt, Int32.reduceToNatClampNeg, i10, i01, Nat.add_left_cancel_iff, Nat.left_eq_add, Nat.add_eq_left, cdX11_quarrelsFrom, F1, (show nI 1 = 1 from rfl), m.o]
    refine D_alone m k h8 hk ho (fun h' c' a' m' k' o' => ?_)
    refine go_ok okF1 (C := cdX11_quarrelsFrom) (by rfl) [] 40 (by exact Nat.le_of_ble_eq_true rfl) ?_
    simp (maxSteps := 2000000) only [go, stp, inS, ↓reduceIte, Bool.false_eq_true, Nat.reduceLT, Nat.reduceEqDiff, Nat.reduceAdd, ldI, ldL, ldA, st1, st2, okS, List.getElem?_cons_zero, List.getElem?_cons_succ, List.length_cons, List.length_nil, List.set_cons_zero, List.set_cons_succ, callP, callF, popN, ct, Value.category, cI, List.getD_cons_zero, List.getD_cons_succ, and_self, and_true, true_and, Nat.zero_le, Nat.reduceLeDiff, Nat.add_zero, Nat.zero_add, List.nil_append, List.cons_append, Option.toList_some, Option.toList_none, List.append_nil, hset_ss, true_or, or_true, eq_self, beq_self_eq_true, List.drop_succ_cons, List.drop_zero, swT, swL, hset_ap, not_true_eq_false, not_false_eq_true, true_implies, false_implies, implies_true, Int32.reduceLE, Int32.reduceLT, Int32.reduceAdd, Int32.reduceSub, Int32.reduceOfInt, Int32.reduceToNatClampNeg, i10, i01, Nat.add_left_cancel_iff, Nat.left_eq_add, Nat.add_eq_left, cdX11_quarrelsFrom, F1]
    exact ⟨bo _, hq h' c' a' m' k' o'⟩
  · have e1 : ¬ nI law = 1 := fun w => l1 ((i_eq (b := 1) (by omega) (by omega)).mp w)
    by_cases l2 : law = 2
    · subst l2
      refine go_ok okF1 (C := cdX11_quarrelsFrom) (by rfl) [] 40 (by exact Nat.le_of_ble_eq_true rfl) ?_
      simp (maxSteps := 2000000) only [go, stp, inS, ↓reduceIte, Bool.false_eq_true, Nat.reduceLT, Nat.reduceEqDiff, Nat.reduceAdd, ldI, ldL, ldA, st1, st2, okS, List.getElem?_cons_zero, List.getElem?_cons_succ, List.length_cons, List.length_nil, List.set_cons_zero, List.set_cons_succ, callP, callF, popN, ct, Value.category, cI, List.getD_cons_zero, List.getD_cons_succ, and_self, and_true, true_and, Nat.zero_le, Nat.reduceLeDiff, Nat.add_zero, Nat.zero_add, List.nil_append, List.cons_append, Option.toList_some, Option.toList_none, List.append_nil, hset_ss, true_or, or_true, eq_self, beq_self_eq_true, List.drop_succ_cons, List.drop_zero, swT, swL, hset_ap, not_true_eq_false, not_false_eq_true, true_implies, false_implies, implies_true, Int32.reduceLE, Int32.reduceLT, Int32.reduceAdd, Int32.reduceSub, Int32.reduceOfInt, Int32.reduceToNatClampNeg, i10, i01, Nat.add_left_cancel_iff, Nat.left_eq_add, Nat.add_eq_left, cdX11_quarrelsFrom, F1, e1, (show nI 2 = 2 from rfl), (show ¬ (2 : Int32) = 1 by decide), m.o]
      refine D_more m k h8 hk ho (fun h' c' a' m' k' o' => ?_)
      refine go_ok okF1 (C := cdX11_quarrelsFrom) (by rfl) [] 40 (by exact Nat.le_of_ble_eq_true rfl) ?_
      simp (maxSteps := 2000000) only [go, stp, inS, ↓reduceIte, Bool.false_eq_true, Nat.reduceLT, Nat.reduceEqDiff, Nat.reduceAdd, ldI, ldL, ldA, st1, st2, okS, List.getElem?_cons_zero, List.getElem?_cons_succ, List.length_cons, List.length_nil, List.set_cons_zero, List.set_cons_succ, callP, callF, popN, ct, Value.category, cI, List.getD_cons_zero, List.getD_cons_succ, and_self, and_true, true_and, Nat.zero_le, Nat.reduceLeDiff, Nat.add_zero, Nat.zero_add, List.nil_append, List.cons_append, Option.toList_some, Option.toList_none, List.append_nil, hset_ss, true_or, or_true, eq_self, beq_self_eq_true, List.drop_succ_cons, List.drop_zero, swT, swL, hset_ap, not_true_eq_false, not_false_eq_true, true_implies, false_implies, implies_true, Int32.reduceLE, Int32.reduceLT, Int32.reduceAdd, Int32.reduceSub, Int32.reduceOfInt, Int32.reduceToNatClampNeg, i10, i01, Nat.add_left_cancel_iff, Nat.left_eq_add, Nat.add_eq_left, cdX11_quarrelsFrom, F1]
      exact ⟨bo _, hq h' c' a' m' k' o'⟩
    · have e2 : ¬ nI law = 2 := fun w => l2 ((i_eq (b := 2) (by omega) (by omega)).mp w)
      have nx : ∀ h' c' a', MH h' c' a' l → qs M s q g c' a' l → sOff h h' 52 80 → A z 210 n 0 0 h' 32 [some (.ref 52), some (.int (nI law)), some (.int (nI o))] [.int (if lwQ M s g q o law = true then 1 else 0)] Q := fun h' c' a' m' k' o' => by
        refine go_ok okF1 (C := cdX11_quarrelsFrom) (by rfl) [] 40 (by exact Nat.le_of_ble_eq_true rfl) ?_
        simp (maxSteps := 2000000) only [go, stp, inS, ↓reduceIte, Bool.false_eq_true, Nat.reduceLT, Nat.reduceEqDiff, Nat.reduceAdd, ldI, ldL, ldA, st1, st2, okS, List.getElem?_cons_zero, List.getElem?_cons_succ, List.length_cons, List.length_nil, List.set_cons_zero, List.set_cons_succ, callP, callF, popN, ct, Value.category, cI, List.getD_cons_zero, List.getD_cons_succ, and_self, and_true, true_and, Nat.zero_le, Nat.reduceLeDiff, Nat.add_zero, Nat.zero_add, List.nil_append, List.cons_append, Option.toList_some, Option.toList_none, List.append_nil, hset_ss, true_or, or_true, eq_self, beq_self_eq_true, List.drop_succ_cons, List.drop_zero, swT, swL, hset_ap, not_true_eq_false, not_false_eq_true, true_implies, false_implies, implies_true, Int32.reduceLE, Int32.reduceLT, Int32.reduceAdd, Int32.reduceSub, Int32.reduceOfInt, Int32.reduceToNatClampNeg, i10, i01, Nat.add_left_cancel_iff, Nat.left_eq_add, Nat.add_eq_left, cdX11_quarrelsFrom, F1]
        exact ⟨bo _, hq h' c' a' m' k' o'⟩
      refine go_ok okF1 (C := cdX11_quarrelsFrom) (by rfl) [32] 40 (by exact Nat.le_of_ble_eq_true rfl) ?_
      simp (maxSteps := 2000000) only [go, stp, inS, ↓reduceIte, Bool.false_eq_true, Nat.reduceLT, Nat.reduceEqDiff, Nat.reduceAdd, ldI, ldL, ldA, st1, st2, okS, List.getElem?_cons_zero, List.getElem?_cons_succ, List.length_cons, List.length_nil, List.set_cons_zero, List.set_cons_succ, callP, callF, popN, ct, Value.category, cI, List.getD_cons_zero, List.getD_cons_succ, and_self, and_true, true_and, Nat.zero_le, Nat.reduceLeDiff, Nat.add_zero, Nat.zero_add, List.nil_append, List.cons_append, Option.toList_some, Option.toList_none, List.append_nil, hset_ss, true_or, or_true, eq_self, beq_self_eq_true, List.drop_succ_cons, List.drop_zero, swT, swL, hset_ap, not_true_eq_false, not_false_eq_true, true_implies, false_implies, implies_true, Int32.reduceLE, Int32.reduceLT, Int32.reduceAdd, Int32.reduceSub, Int32.reduceOfInt, Int32.reduceToNatClampNeg, i10, i01, Nat.add_left_cancel_iff, Nat.left_eq_add, Nat.add_eq_left, cdX11_quarrelsFrom, F1, e1, e2, m.o]
      rcases (by omega : law = 0 ∨ law = 3 ∨ law = 4 ∨ law = 5 ∨ law = 6) with rfl | rfl | rfl | rfl | rfl
      · exact now_0 m k h8 hk ho nx
      · exact now_34 (Or.inl rfl) m k h8 hk ho nx
      · exact now_34 (Or.inr rfl) m k h8 hk ho nx
      · exact now_5 m k h8 hk ho hv nx
      · exact now_6 m k h8 hk ho hv nx
end MS3
