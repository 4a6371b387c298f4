
/-! the model: a text that is asked -/
theorem nI_m1 {p : Nat} (hp : p < 1000) : ¬ nI p = -1 := fun q => by
  have := congrArg Int32.toInt q
  rw [nI_toInt (by omega), show (-1 : Int32).toInt = -1 from rfl] at this; omega
theorem flt_m1 {s : pT} {len : Nat} (hl : len ≤ 40) : flt s len = -1 ↔ pwB s = true := by
  rw [pwB_iff]
  unfold flt pw
  by_cases e : s.2.2.2.2.1 = -1
  · rw [if_neg (fun q => q e)]
    by_cases e2 : s.2.1 = 0 ∧ s.2.2.1 = 0
    · rw [if_pos e2]; exact ⟨fun _ => ⟨e, e2⟩, fun _ => rfl⟩
    · rw [if_neg e2]; exact ⟨fun q => absurd q (nI_m1 (by omega)), fun q => absurd q.2 e2⟩
  · rw [if_pos e]; exact ⟨fun q => absurd q e, fun q => absurd q.1 e⟩
theorem pR_eq {s s' : pT} {len : Nat} (h : pR s s') : s'.1 = s.1 ∧ pwB s' = pwB s ∧ flt s' len = flt s len := by
  obtain ⟨ac, ot, om, mi, sk, G, L, R⟩ := s
  obtain ⟨ac', ot', om', mi', sk', G', L', R'⟩ := s'
  obtain ⟨rfl, rfl, rfl, rfl, rfl, -⟩ := h
  exact ⟨rfl, rfl, rfl⟩
theorem mR.fr {M : MS} {c c' : Nat → Int32} {a a' : Nat → Nat → Int32} {l : Nat → Nat → Int64} (r : mR M c a l) (h4 : c' 4 = c 4) (h5 : c' 5 = c 5) (h28 : c' 28 = c 28) (h29 : c' 29 = c 29) (a0 : a' 0 = a 0) (a1 : a' 1 = a 1) (a6 : a' 6 = a 6) (a9 : a' 9 = a 9) (a10 : a' 10 = a 10) (a40 : a' 40 = a 40) : mR M c' a' l := by
  unfold mR at r ⊢
  rw [h4, h5, h28, h29, a0, a1, a6, a9, a10, a40]
  exact r
theorem pcN_all {nr r : Nat} (h : nr ≤ 16) (hr : r ≤ nr) : pcN (alm nr) r = r := by
  induction r with
  | zero => rfl
  | succ r ih => rw [pcN, ih (by omega), b_alm (by omega) (by omega)]; simp [b2n, show r < nr by omega]
-- a text is read
def sM (M : MS) (t : Nat) : pT := pS (M.B t) (M.len t)
-- what the model keeps of a cut, kept in sight
def kL (l : Nat → Nat → Int64) (c : Nat → Int32) : Nat → Nat → Int64 := fset (fset l 33 (fun _ => (c 33).toInt64)) 34 (fun _ => (c 34).toInt64)
theorem MH.kl {h : aH} {c : Nat → Int32} {a : Nat → Nat → Int32} {l : Nat → Nat → Int64} (m : MH h c a l) (c2 : Nat → Int32) : MH h c a (kL l c2) := m
theorem mR.kl {M : MS} {c : Nat → Int32} {a : Nat → Nat → Int32} {l : Nat → Nat → Int64} (r : mR M c a l) (c2 : Nat → Int32) : mR M c a (kL l c2) := r
section MO
variable {n : Nat} {h : aH} {Q : aQ} {M : MS} {c : Nat → Int32} {a : Nat → Nat → Int32} {l : Nat → Nat → Int64} {G L R : Nat → Int32} {N q t : Nat}
theorem MOk.sok (ok : MOk M) (ht : t < 2) (hw : pwB (M.s t) = true) : sOk (sM M t) := (pS_I (M.B t) (M.len t)).ok (ok.ln t ht) (by have := (pR_eq (len := M.len t) (ok.pr t ht)).2.1; rw [this]; exact hw)
theorem mR.rdT (r : mR M c a l) (ok : MOk M) (ht : t < 2) : rdT a t (M.B t) (M.len t) := ⟨ht, ok.ln t ht, r.ln ht, fun i hi => r.tx ht hi⟩
theorem mR.fc (r : mR M c a l) {c' : Nat → Int32} {a' : Nat → Nat → Int32} (x : fc1 c c') (y : fa1 a a') : mR M c' a' l := r.fr (x 4 (by omega) (by omega) (by omega) (by omega)) (x 5 (by omega) (by omega) (by omega) (by omega)) (x 28 (by omega) (by omega) (by omega) (by omega)) (x 29 (by omega) (by omega) (by omega) (by omega)) (y 0 (by omega)) (y 1 (by omega)) (y 6 (by omega)) (y 9 (by omega)) (y 10 (by omega)) (y 40 (by omega))
theorem D_readsM (m : MI h M) (ok : MOk M) (ht : t < 2) (hq0 : ¬ pwB (M.s t) = true → ¬ flt (M.s t) (M.len t) = -1 → ∀ h', MI h' M → sOff h h' 52 80 → Q (some (.int (flt (M.s t) (M.len t)))) n h') (hq1 : pwB (M.s t) = true → ∀ h' c a l, MH h' c a l → mR M c a l → src a (sM M t) → c 12 = nI (M.s t).1 → sOff h h' 52 80 → Q (some (.int (-1))) n h') : Ok 175 [.ref 52, .int (nI t)] n h Q := by
  obtain ⟨c, a, l, m, r⟩ := m
  obtain ⟨p1, p2, p3⟩ := pR_eq (len := M.len t) (ok.pr t ht)
  have hl := ok.ln t ht
  refine D_reads m (r.rdT ok ht) (fun h' c' a' m' fc fa o hr => ?_)
  have r' := r.fc fc fa
  rw [p2] at hr
  rw [p3]
  by_cases hw : pwB (M.s t) = true
  · obtain ⟨q1, q2, q3⟩ := hr hw
    rw [(flt_m1 hl).mpr hw]
    exact hq1 hw h' c' a' l m' r' ⟨q2, q3⟩ (by rw [q1, p1]) o
  · exact hq0 hw (fun q => hw ((flt_m1 hl).mp q)) h' ⟨c', a', l, m', r'⟩ o
set_option maxRecDepth 100000 in
set_option maxHeartbeats 400000 in
theorem D_fault {x : Int32} (m : MI h M) (ok : MOk M) (hq : ∀ h', MI h' M → sOff h h' 52 80 → Q (some (.int (stFault M x))) n h') : Ok 176 [.ref 52, .int x] n h Q := by
  unfold stFault at hq
  have m0 := m
  obtain ⟨c, a, l, m, r⟩ := m
  refine ok_of kMX11_fault kCX11_fault (Nat.le_of_ble_eq_true rfl) (fun z => ?_)
  change A z _ _ 0 0 _ 0 [some (.ref 52), some (.int x)] [] _
  by_cases hx : 0 ≤ x ∧ x < 2
  · obtain ⟨t, ht, rfl⟩ := i_of (n := 2) (by omega) (i_nlt.mpr hx.1) hx.2
    rw [if_pos hx, i_cl (show t < 2147483648 by omega)] at hq
    refine go_ok okF1 (C := cdX11_fault) (by rfl) [] 40 (by exact Nat.le_of_ble_eq_true rfl) ?_
    simp (maxSteps := 2000000) only [go, stp, inS, ↓reduceIte, Bool.false_eq_true, Nat.reduceLT, Nat.reduceEqDiff, Nat.reduceAdd, ldI, ldL, ldA, st1, st2, okS, List.getElem?_cons_zero, List.getElem?_cons_succ, List.length_cons, List.length_nil, List.set_cons_zero, List.set_cons_succ, callP, callF, popN, ct, Value.category, cI, List.getD_cons_zero, List.getD_cons_succ, and_self, and_true, true_and, Nat.zero_le, Nat.reduceLeDiff, Nat.add_zero, Nat.zero_add, List.nil_append, List.cons_append, Option.toList_some, Option.toList_none, List.append_nil, hset_ss, true_or, or_true, eq_self, beq_self_eq_true, List.drop_succ_cons, List.drop_zero, swT, swL, hset_ap, not_true_eq_false, not_false_eq_true, true_implies, false_implies, implies_true, Int32.reduceLE, Int32.reduceLT, Int32.reduceAdd, Int32.reduceSub, Int32.reduceOfInt, Int32.reduceToNatClampNeg, i10, i01, Nat.add_left_cancel_iff, Nat.left_eq_add, Nat.add_eq_left, cdX11_fault, F1, eq_true hx, m.o]
    refine D_readsM m0 ok ht (fun hw hf h' m' o => ?_) (fun hw h' c' a' l' m' r' hs h12 o => ?_)
    · refine go_ok okF1 (C := cdX11_fault) (by rfl) [] 40 (by exact Nat.le_of_ble_eq_true rfl) ?_
      simp (maxSteps := 2000000) only [go, stp, inS, ↓reduceIte, Bool.false_eq_true, Nat.reduceLT, Nat.reduceEqDiff, Nat.reduceAdd, ldI, ldL, ldA, st1, st2, okS, List.getElem?_cons_zero, List.getElem?_cons_succ, List.length_cons, List.length_nil, List.set_cons_zero, List.set_cons_succ, callP, callF, popN, ct, Value.category, cI, List.getD_cons_zero, List.getD_cons_succ, and_self, and_true, true_and, Nat.zero_le, Nat.reduceLeDiff, Nat.add_zero, Nat.zero_add, List.nil_append, List.cons_append, Option.toList_some, Option.toList_none, List.append_nil, hset_ss, true_or, or_true, eq_self, beq_self_eq_true, List.drop_succ_cons, List.drop_zero, swT, swL, hset_ap, not_true_eq_false, not_false_eq_true, true_implies, false_implies, implies_true, Int32.reduceLE, Int32.reduceLT, Int32.reduceAdd, Int32.reduceSub, Int32.reduceOfInt, Int32.reduceToNatClampNeg, i10, i01, Nat.add_left_cancel_iff, Nat.left_eq_add, Nat.add_eq_left, cdX11_fault, F1]
      exact hq h' m' o
    · refine go_ok okF1 (C := cdX11_fault) (by rfl) [] 40 (by exact Nat.le_of_ble_eq_true rfl) ?_
      simp (maxSteps := 2000000) only [go, stp, inS, ↓reduceIte, Bool.false_eq_true, Nat.reduceLT, Nat.reduceEqDiff, Nat.reduceAdd, ldI, ldL, ldA, st1, st2, okS, List.getElem?_cons_zero, List.getElem?_cons_succ, List.length_cons, List.length_nil, List.set_cons_zero, List.set_cons_succ, callP, callF, popN, ct, Value.category, cI, List.getD_cons_zero, List.getD_cons_succ, and_self, and_true, true_and, Nat.zero_le, Nat.reduceLeDiff, Nat.add_zero, Nat.zero_add, List.nil_append, List.cons_append, Option.toList_some, Option.toList_none, List.append_nil, hset_ss, true_or, or_true, eq_self, beq_self_eq_true, List.drop_succ_cons, List.drop_zero, swT, swL, hset_ap, not_true_eq_false, not_false_eq_true, true_implies, false_implies, implies_true, Int32.reduceLE, Int32.reduceLT, Int32.reduceAdd, Int32.reduceSub, Int32.reduceOfInt, Int32.reduceToNatClampNeg, i10, i01, Nat.add_left_cancel_iff, Nat.left_eq_add, Nat.add_eq_left, cdX11_fault, F1]
      rw [(flt_m1 (ok.ln t ht)).mpr hw] at hq
      exact hq h' ⟨c', a', l', m', r'⟩ o
  · rw [if_neg hx] at hq
    refine go_ok okF1 (C := cdX11_fault) (by rfl) [] 40 (by exact Nat.le_of_ble_eq_true rfl) ?_
    simp (maxSteps := 2000000) only [go, stp, inS, ↓reduceIte, Bool.false_eq_true, Nat.reduceLT, Nat.reduceEqDiff, Nat.reduceAdd, ldI, ldL, ldA, st1, st2, okS, List.getElem?_cons_zero, List.getElem?_cons_succ, List.length_cons, List.length_nil, List.set_cons_zero, List.set_cons_succ, callP, callF, popN, ct, Value.category, cI, List.getD_cons_zero, List.getD_cons_succ, and_self, and_true, true_and, Nat.zero_le, Nat.reduceLeDiff, Nat.add_zero, Nat.zero_add, List.nil_append, List.cons_append, Option.toList_some, Option.toList_none, List.append_nil, hset_ss, true_or, or_true, eq_self, beq_self_eq_true, List.drop_succ_cons, List.drop_zero, swT, swL, hset_ap, not_true_eq_false, not_false_eq_true, true_implies, false_implies, implies_true, Int32.reduceLE, Int32.reduceLT, Int32.reduceAdd, Int32.reduceSub, Int32.reduceOfInt, Int32.reduceToNatClampNeg, i10, i01, Nat.add_left_cancel_iff, Nat.left_eq_add, Nat.add_eq_left, cdX11_fault, F1, eq_false hx]
    exact hq h m0 sOff.rf
set_option maxRecDepth 100000 in
set_option maxHeartbeats 400000 in
theorem D_acts {x : Int32} (m : MI h M) (ok : MOk M) (hq : ∀ h', MI h' M → sOff h h' 52 80 → Q (some (.int (stActs M x))) n h') : Ok 178 [.ref 52, .int x] n h Q := by
  unfold stActs at hq
  have m0 := m
  obtain ⟨c, a, l, m, r⟩ := m
  refine ok_of kMX11_acts kCX11_acts (Nat.le_of_ble_eq_true rfl) (fun z => ?_)
  change A z _ _ 0 0 _ 0 [some (.ref 52), some (.int x)] [] _
  by_cases hx : 0 ≤ x ∧ x < 2
  · obtain ⟨t, ht, rfl⟩ := i_of (n := 2) (by omega) (i_nlt.mpr hx.1) hx.2
    rw [if_pos hx, i_cl (show t < 2147483648 by omega)] at hq
    refine go_ok okF1 (C := cdX11_acts) (by rfl) [] 40 (by exact Nat.le_of_ble_eq_true rfl) ?_
    simp (maxSteps := 2000000) only [go, stp, inS, ↓reduceIte, Bool.false_eq_true, Nat.reduceLT, Nat.reduceEqDiff, Nat.reduceAdd, ldI, ldL, ldA, st1, st2, okS, List.getElem?_cons_zero, List.getElem?_cons_succ, List.length_cons, List.length_nil, List.set_cons_zero, List.set_cons_succ, callP, callF, popN, ct, Value.category, cI, List.getD_cons_zero, List.getD_cons_succ, and_self, and_true, true_and, Nat.zero_le, Nat.reduceLeDiff, Nat.add_zero, Nat.zero_add, List.nil_append, List.cons_append, Option.toList_some, Option.toList_none, List.append_nil, hset_ss, true_or, or_true, eq_self, beq_self_eq_true, List.drop_succ_cons, List.drop_zero, swT, swL, hset_ap, not_true_eq_false, not_false_eq_true, true_implies, false_implies, implies_true, Int32.reduceLE, Int32.reduceLT, Int32.reduceAdd, Int32.reduceSub, Int32.reduceOfInt, Int32.reduceToNatClampNeg, i10, i01, Nat.add_left_cancel_iff, Nat.left_eq_add, Nat.add_eq_left, cdX11_acts, F1, eq_true hx, m.o]
    refine D_readsM m0 ok ht (fun hw hf h' m' o => ?_) (fun hw h' c' a' l' m' r' hs h12 o => ?_)
    · rw [if_neg hw] at hq
      refine go_ok okF1 (C := cdX11_acts) (by rfl) [] 40 (by exact Nat.le_of_ble_eq_true rfl) ?_
      simp (maxSteps := 2000000) only [go, stp, inS, ↓reduceIte, Bool.false_eq_true, Nat.reduceLT, Nat.reduceEqDiff, Nat.reduceAdd, ldI, ldL, ldA, st1, st2, okS, List.getElem?_cons_zero, List.getElem?_cons_succ, List.length_cons, List.length_nil, List.set_cons_zero, List.set_cons_succ, callP, callF, popN, ct, Value.category, cI, List.getD_cons_zero, List.getD_cons_succ, and_self, and_true, true_and, Nat.zero_le, Nat.reduceLeDiff, Nat.add_zero, Nat.zero_add, List.nil_append, List.cons_append, Option.toList_some, Option.toList_none, List.append_nil, hset_ss, true_or, or_true, eq_self, beq_self_eq_true, List.drop_succ_cons, List.drop_zero, swT, swL, hset_ap, not_true_eq_false, not_false_eq_true, true_implies, false_implies, implies_true, Int32.reduceLE, Int32.reduceLT, Int32.reduceAdd, Int32.reduceSub, Int32.reduceOfInt, Int32.reduceToNatClampNeg, i10, i01, Nat.add_left_cancel_iff, Nat.left_eq_add, Nat.add_eq_left, cdX11_acts, F1, hf]
      exact hq h' m' o
    · rw [if_pos hw] at hq
      refine go_ok okF1 (C := cdX11_acts) (by rfl) [] 40 (by exact Nat.le_of_ble_eq_true rfl) ?_
      simp (maxSteps := 2000000) only [go, stp, inS, ↓reduceIte, Bool.false_eq_true, Nat.reduceLT, Nat.reduceEqDiff, Nat.reduceAdd, ldI, ldL, ldA, st1, st2, okS, List.getElem?_cons_zero, List.getElem?_cons_succ, List.length_cons, List.length_nil, List.set_cons_zero, List.set_cons_succ, callP, callF, popN, ct, Value.category, cI, List.getD_cons_zero, List.getD_cons_succ, and_self, and_true, true_and, Nat.zero_le, Nat.reduceLeDiff, Nat.add_zero, Nat.zero_add, List.nil_append, List.cons_append, Option.toList_some, Option.toList_none, List.append_nil, hset_ss, true_or, or_true, eq_self, beq_self_eq_true, List.drop_succ_cons, List.drop_zero, swT, swL, hset_ap, not_true_eq_false, not_false_eq_true, true_implies, false_implies, implies_true, Int32.reduceLE, Int32.reduceLT, Int32.reduceAdd, Int32.reduceSub, Int32.reduceOfInt, Int32.reduceToNatClampNeg, i10, i01, Nat.add_left_cancel_iff, Nat.left_eq_add, Nat.add_eq_left, cdX11_acts, F1, m'.o, h12]
      exact hq h' ⟨c', a', l', m', r'⟩ o
  · rw [if_neg hx] at hq
    refine go_ok okF1 (C := cdX11_acts) (by rfl) [] 40 (by exact Nat.le_of_ble_eq_true rfl) ?_
    simp (maxSteps := 2000000) only [go, stp, inS, ↓reduceIte, Bool.false_eq_true, Nat.reduceLT, Nat.reduceEqDiff, Nat.reduceAdd, ldI, ldL, ldA, st1, st2, okS, List.getElem?_cons_zero, List.getElem?_cons_succ, List.length_cons, List.length_nil, List.set_cons_zero, List.set_cons_succ, callP, callF, popN, ct, Value.category, cI, List.getD_cons_zero, List.getD_cons_succ, and_self, and_true, true_and, Nat.zero_le, Nat.reduceLeDiff, Nat.add_zero, Nat.zero_add, List.nil_append, List.cons_append, Option.toList_some, Option.toList_none, List.append_nil, hset_ss, true_or, or_true, eq_self, beq_self_eq_true, List.drop_succ_cons, List.drop_zero, swT, swL, hset_ap, not_true_eq_false, not_false_eq_true, true_implies, false_implies, implies_true, Int32.reduceLE, Int32.reduceLT, Int32.reduceAdd, Int32.reduceSub, Int32.reduceOfInt, Int32.reduceToNatClampNeg, i10, i01, Nat.add_left_cancel_iff, Nat.left_eq_add, Nat.add_eq_left, cdX11_acts, F1, eq_false hx]
    exact hq h m0 sOff.rf
-- rows that are asked of: cells, and how many
def askd (c : Nat → Int32) (a : Nat → Nat → Int32) (f : Nat → Int32) (q : Nat) : Prop := c 7 = nI q ∧ q ≤ 8 ∧ ∀ i, i < q * 3 → a 8 i = f i
-- all that stands when a text may be asked
def rdy (M : MS) (s : pT) (c : Nat → Int32) (a : Nat → Nat → Int32) (l : Nat → Nat → Int64) : Prop := mR M c a l ∧ src a s ∧ c 12 = nI s.1 ∧ l 33 0 = (c 33).toInt64 ∧ l 34 0 = (c 34).toInt64
theorem rdy.sc {s : pT} (h : rdy M s c a l) (i : Nat) (v : Int32) (hi : i ≠ 4 ∧ i ≠ 5 ∧ i ≠ 28 ∧ i ≠ 29 ∧ i ≠ 12 ∧ i ≠ 33 ∧ i ≠ 34) : rdy M s (upd c i v) a l := by
  obtain ⟨r, s1, s2, s3, s4⟩ := h
  exact ⟨r.fr (pk_un (by omega)) (pk_un (by omega)) (pk_un (by omega)) (pk_un (by omega)) rfl rfl rfl rfl rfl rfl, s1, by rw [pk_un (by omega)]; exact s2, by rw [pk_un (by omega)]; exact s3, by rw [pk_un (by omega)]; exact s4⟩
theorem rdy.sa {s : pT} (h : rdy M s c a l) (a' : Nat → Nat → Int32) (ha : ∀ i, i ≠ 8 → (i < 22 ∨ 33 ≤ i) → i ≠ 35 → i ≠ 36 → a' i = a i) : rdy M s c a' l := by
  obtain ⟨r, s1, s2, s3, s4⟩ := h
  have f := fun i (h1 : i ≠ 8) (h2 : i < 22 ∨ 33 ≤ i) (h3 : i ≠ 35) (h4 : i ≠ 36) => ha i h1 h2 h3 h4
  refine ⟨r.fr rfl rfl rfl rfl (f 0 (by omega) (by omega) (by omega) (by omega)) (f 1 (by omega) (by omega) (by omega) (by omega)) (f 6 (by omega) (by omega) (by omega) (by omega)) (f 9 (by omega) (by omega) (by omega) (by omega)) (f 10 (by omega) (by omega) (by omega) (by omega)) (f 40 (by omega) (by omega) (by omega) (by omega)), ⟨fun k hk => ?_, fun k hk => by rw [f 18 (by omega) (by omega) (by omega) (by omega)]; exact s1.2 k hk⟩, s2, s3, s4⟩
  rw [f 13 (by omega) (by omega) (by omega) (by omega), f 14 (by omega) (by omega) (by omega) (by omega), f 15 (by omega) (by omega) (by omega) (by omega), f 16 (by omega) (by omega) (by omega) (by omega), f 17 (by omega) (by omega) (by omega) (by omega)]
  exact s1.1 k hk
theorem D_asksM {s : pT} {sm : Int32} (m : MH h c a l) (hr : rdy M s c a l) (ok : MOk M) (hq : ∀ h' c' a', MH h' c' a' l → rdy M s c' a' l → c' 7 = nI (pcN sm M.nr) → (∀ r, r < M.nr → bt sm r = true → ∀ k, k < 3 → a' 8 (pcN sm r * 3 + k) = M.f (r * 3 + k)) → sOff h h' 52 80 → Q none n h') : Ok 164 [.ref 52, .int sm] n h Q := by
  have hnr := ok.nr
  refine D_asks m hr.1.nr hnr (fun h' g m' hg o => ?_)
  refine hq h' _ _ m' ((hr.sc 7 _ (by omega)).sa _ (fun i i1 i2 i3 i4 => fset_n _ _ i1)) rfl (fun r hr2 hb k hk => ?_) o
  have := hg r hr2 hb k hk
  rw [hr.1.tb (show r * 3 + k < M.nr * 3 by omega)] at this
  exact this
theorem D_asksAll {s : pT} (m : MH h c a l) (hr : rdy M s c a l) (ok : MOk M) (hq : ∀ h' c' a', MH h' c' a' l → rdy M s c' a' l → askd c' a' M.f M.nr → sOff h h' 52 80 → Q none n h') : Ok 164 [.ref 52, .int (alm M.nr)] n h Q := by
  have hnr := ok.nr
  refine D_asksM m hr ok (fun h' c' a' m' r' h7 hg o => hq h' c' a' m' r' ⟨by rw [h7, pcN_all (by omega) (Nat.le_refl _)], hnr, fun i hi => ?_⟩ o)
  have := hg (i / 3) (by omega) (by rw [b_alm (by omega) (by omega)]; simp; omega) (i % 3) (by omega)
  rw [pcN_all (by omega) (by omega), show i / 3 * 3 + i % 3 = i by omega] at this
  exact this
theorem D_laysM {how o : Nat} {s : pT} {f : Nat → Int32} (m : MH h c a l) (hr : rdy M s c a l) (ha : askd c a f q) (hk : sOk s) (ho : o < s.1) (hh : how ≤ 6) (hq : ∀ h' c' a' G' L' R' N, MH h' c' a' l → rdy M s c' a' l → askd c' a' f q → ld c' a' G' L' R' N → (∀ d f r, ev d G' N L' R' f r 0 = evL how d (cmB (sG s o)) (evS s f d r o)) → 0 < N → (how = 0 → N = sz (sG s) s.1 o ∧ sgA G' L' R' (sG s) (sL s) (sR s) 0 o N) → sOff h h' 52 80 → Q none n h') : Ok 183 [.ref 52, .int (nI how), .int (nI o)] n h Q := by
  refine D_lays m hr.2.1 hk ho hh (fun h' a' G' L' R' N m' hl hf he hN h0 o' => ?_)
  exact hq h' _ a' G' L' R' N m' ((hr.sc 21 _ (by omega)).sa _ (fun i i1 i2 i3 i4 => hf i (by omega))) ⟨ha.1, ha.2.1, by rw [hf 8 (by omega)]; exact ha.2.2⟩ hl he hN h0 o'
end MO
