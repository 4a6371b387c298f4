
def rwt : List Nat → Nat
  | [] => 0
  | r :: rest => 3 * r + 2 + rwt rest
theorem gTerm_len2 (s : Int32) (o : List Int32) : (gTerm s o).2.length ≤ o.length + 2 := gTerm_len s o
theorem gstep_inv {r : Nat} {rest : List Nat} {sd : Int32} {o : List Int32} (hr1 : 1 ≤ r) (hmin : rmin rest) : rmin (gstep (r :: rest, sd, o)).1 ∧ rsum (gstep (r :: rest, sd, o)).1 + 1 ≤ r + rsum rest ∧ (gstep (r :: rest, sd, o)).2.2.length + rwt (gstep (r :: rest, sd, o)).1 ≤ o.length + rwt (r :: rest) := by
  unfold gstep
  dsimp only
  by_cases c2 : gKi (lcg sd) r < 2
  · have h3 := gKi_3 hr1 c2
    have hlt := ltN_lt (lcg (lcg sd)) (k := r - 2) (by omega)
    rw [if_pos c2]
    refine ⟨⟨by omega, by omega, hmin⟩, ?_, ?_⟩
    · simp only [rsum]; omega
    · simp only [rwt, List.length_append, List.length_cons, List.length_nil]; omega
  · rw [if_neg c2]
    by_cases c4 : gKi (lcg sd) r < 4
    · have h2 := gKi_2 hr1 c4
      rw [if_pos c4]
      refine ⟨⟨by omega, hmin⟩, ?_, ?_⟩
      · simp only [rsum]; omega
      · simp only [rwt, List.length_append, List.length_cons, List.length_nil]; omega
    · rw [if_neg c4]
      refine ⟨hmin, by dsimp only; omega, ?_⟩
      have e1 := gTerm_len (lcg sd) (o ++ [sA2 (gKi (lcg sd) r)])
      have e2 := gTerm_len (gTerm (lcg sd) (o ++ [sA2 (gKi (lcg sd) r)])).1 (gTerm (lcg sd) (o ++ [sA2 (gKi (lcg sd) r)])).2
      simp only [rwt, List.length_append, List.length_cons, List.length_nil] at e1 ⊢
      omega
-- what the reader is at: tests open, terms open, behind a minus, a fault
def pst (s : pT) (w om mi : Nat) : Prop := s.2.1 = w ∧ s.2.2.1 = om ∧ s.2.2.2.1 = mi ∧ s.2.2.2.2.1 = -1
theorem pst_min {s : pT} {w om p : Nat} (h : pst s w om 0) (h0 : 0 < om) : pst (pstep s p 45) w om 1 := by
  obtain ⟨ac, ot, om', mi, sk, G, L, R⟩ := s
  obtain ⟨rfl, rfl, rfl, e⟩ := h
  dsimp only at e
  subst e
  unfold pstep
  dsimp only
  rw [if_neg (by simp), if_pos h0, if_pos ⟨rfl, rfl⟩]
  exact ⟨rfl, rfl, rfl, rfl⟩
theorem pst_tm {s : pT} {w om mi p : Nat} {b : Int32} (h : pst s w om mi) (h0 : 0 < om) (h2 : om ≤ 2) (hb : ¬ b = 45) (ht : ¬ tmO mi b = 1000) : pst (pstep s p b) w (om - 1) 0 := by
  obtain ⟨ac, ot, om', mi', sk, G, L, R⟩ := s
  obtain ⟨rfl, rfl, rfl, e⟩ := h
  dsimp only at e h0 h2 ht
  subst e
  unfold pstep
  dsimp only
  rw [if_neg (by simp), if_pos h0, if_neg (fun q => hb q.1), if_neg ht]
  by_cases c : om' = 2
  · subst c; rw [if_pos rfl]; exact ⟨rfl, rfl, rfl, rfl⟩
  · have : om' = 1 := by omega
    subst this; rw [if_neg c]; exact ⟨rfl, rfl, rfl, rfl⟩
theorem pst_sg {s : pT} {w p k : Nat} (h : pst s (w + 1) 0 0) (hk : k < 7) : pst (pstep s p (sA2 k)) (if k < 2 then w + 2 else if k < 4 then w + 1 else w) (if k < 4 then 0 else 2) 0 := by
  obtain ⟨ac, ot, om', mi', sk, G, L, R⟩ := s
  obtain ⟨e1, e2, e3, e⟩ := h
  dsimp only at e e1 e2 e3
  subst e e1 e2 e3
  unfold pstep
  dsimp only
  rw [if_neg (by simp), if_neg (by omega), if_neg (by omega)]
  rcases (by omega : k = 0 ∨ k = 1 ∨ k = 2 ∨ k = 3 ∨ k = 4 ∨ k = 5 ∨ k = 6) with rfl | rfl | rfl | rfl | rfl | rfl | rfl
  · exact ⟨rfl, rfl, rfl, rfl⟩
  · exact ⟨rfl, rfl, rfl, rfl⟩
  · exact ⟨rfl, rfl, rfl, rfl⟩
  · exact ⟨rfl, rfl, rfl, rfl⟩
  · exact ⟨rfl, rfl, rfl, rfl⟩
  · exact ⟨rfl, rfl, rfl, rfl⟩
  · exact ⟨rfl, rfl, rfl, rfl⟩
theorem pst_gTerm {s0 : pT} {sd : Int32} {o : List Int32} {w om : Nat} (h : pst (pfold s0 0 o) w om 0) (h0 : 0 < om) (h2 : om ≤ 2) : pst (pfold s0 0 (gTerm sd o).2) w (om - 1) 0 := by
  have t6 := ltN_lt (lcg sd) (k := 6) (by omega)
  have t10 := ltN_lt (lcg (lcg sd)) (k := 10) (by omega)
  unfold gTerm
  by_cases c3 : ltN (lcg sd) 6 < 3
  · rw [if_pos c3, pfold_add]
    refine pst_tm h h0 h2 ?_ ?_
    · exact (by decide +kernel : ∀ k, k < 3 → ¬ nI (97 + k) = 45) _ c3
    · exact (by decide +kernel : ∀ k, k < 3 → ¬ tmO 0 (nI (97 + k)) = 1000) _ c3
  · rw [if_neg c3]
    by_cases c4 : ltN (lcg sd) 6 = 3
    · rw [if_pos c4, pfold_add]
      exact pst_tm h h0 h2 (by decide) (by decide +kernel)
    · rw [if_neg c4]
      have d1 : ¬ nI (48 + ltN (lcg (lcg sd)) 10) = 45 := (by decide +kernel : ∀ k, k < 10 → ¬ nI (48 + k) = 45) _ t10
      by_cases c5 : ltN (lcg sd) 6 = 5
      · rw [if_pos c5, pfold_add, pfold_add]
        exact pst_tm (pst_min h h0) h0 h2 d1 ((by decide +kernel : ∀ k, k < 10 → ¬ tmO 1 (nI (48 + k)) = 1000) _ t10)
      · rw [if_neg c5, pfold_add]
        exact pst_tm h h0 h2 d1 ((by decide +kernel : ∀ k, k < 10 → ¬ tmO 0 (nI (48 + k)) = 1000) _ t10)
theorem pst_step {s0 : pT} {r : Nat} {rest : List Nat} {sd : Int32} {o : List Int32} (h : pst (pfold s0 0 o) (rest.length + 1) 0 0) : pst (pfold s0 0 (gstep (r :: rest, sd, o)).2.2) (gstep (r :: rest, sd, o)).1.length 0 0 := by
  have h1 := pst_sg (p := 0 + o.length) h (gKi_lt (lcg sd) r)
  rw [← pfold_add] at h1
  unfold gstep
  dsimp only
  by_cases c2 : gKi (lcg sd) r < 2
  · rw [if_pos c2, if_pos (by omega)] at h1
    rw [if_pos c2]; exact h1
  · rw [if_neg c2] at h1 ⊢
    by_cases c4 : gKi (lcg sd) r < 4
    · rw [if_pos c4, if_pos c4] at h1
      rw [if_pos c4]; exact h1
    · rw [if_neg c4, if_neg c4] at h1
      rw [if_neg c4]
      exact pst_gTerm (pst_gTerm h1 (by omega) (by omega)) (by omega) (by omega)
def gInv (s0 : pT) (i : Nat) (g : gT) : Prop := rmin g.1 ∧ rsum g.1 + i ≤ 9 ∧ g.2.2.length + rwt g.1 ≤ 29 ∧ pst (pfold s0 0 g.2.2) g.1.length 0 0
theorem gInv_step {s0 : pT} {i : Nat} {r : Nat} {rest : List Nat} {sd : Int32} {o : List Int32} (h : gInv s0 i (r :: rest, sd, o)) : gInv s0 (i + 1) (gstep (r :: rest, sd, o)) := by
  obtain ⟨h1, h2, h3, h4⟩ := h
  obtain ⟨a, b, c⟩ := gstep_inv (sd := sd) (o := o) h1.1 h1.2
  simp only [rsum] at h2
  dsimp only at h3
  exact ⟨a, by omega, by omega, pst_step h4⟩
theorem gF_nil : ∀ (m : Nat) (s : Int32) (o : List Int32), gF m ([], s, o) = ([], s, o)
  | 0, _, _ => rfl
  | m + 1, s, o => gF_nil m s o
theorem gF_inv {s0 : pT} : ∀ (m i : Nat) (g : gT), i + m = 9 → gInv s0 i g → ∃ s, gF m g = ([], s, (gF m g).2.2) ∧ gInv s0 9 (gF m g)
  | 0, i, ([], s, o), hi, h => ⟨s, rfl, by rw [show i = 9 by omega] at h; exact h⟩
  | 0, i, (r :: rest, s, o), hi, h => by
    have h1 := h.1.1
    have h2 := h.2.1
    simp only [rsum] at h2
    omega
  | m + 1, i, ([], s, o), hi, h => by
    rw [gF_nil]
    exact ⟨s, rfl, h.1, by simp [rsum], h.2.2.1, h.2.2.2⟩
  | m + 1, i, (r :: rest, s, o), hi, h => gF_inv m (i + 1) (gstep (r :: rest, s, o)) (by omega) (gInv_step h)
def pz (G L R : Nat → Int32) : pT := (0, 1, 0, 0, -1, G, L, R)
theorem gInv_0 {G L R : Nat → Int32} {sd : Int32} {r : Nat} (h1 : 1 ≤ r) (h9 : r ≤ 9) : gInv (pz G L R) 0 ([r], sd, []) := ⟨⟨h1, trivial⟩, by simp [rsum]; omega, by simp [rwt]; omega, ⟨rfl, rfl, rfl, rfl⟩⟩
theorem grB_ok (G L R : Nat → Int32) (sd : Int32) {r : Nat} (h1 : 1 ≤ r) (h9 : r ≤ 9) : (grB sd r).length ≤ 29 ∧ pw (pfold (pz G L R) 0 (grB sd r)) := by
  obtain ⟨s, e, hI⟩ := gF_inv (s0 := pz G L R) 9 0 ([r], sd, []) (by omega) (gInv_0 h1 h9)
  rw [e] at hI
  obtain ⟨a1, a2, a3, a4⟩ := hI
  dsimp only [rwt] at a3 a4
  exact ⟨by unfold grB; omega, a4.2.2.2, a4.1, a4.2.1⟩
theorem pI_0 (G L R : Nat → Int32) : pI (pz G L R) 0 := ⟨by omega, by omega, by omega, fun q => absurd q (by omega), by omega, fun _ => rfl, fun k hk => absurd hk (by omega), rfl, fun k hk => absurd hk (by omega), fun k hk => absurd hk (by omega)⟩
section GR
variable {n : Nat} {h : aH} {Q : aQ} {t x : Nat} {Rm B : Nat → Int32} {sd : Int32}
set_option maxRecDepth 100000 in
set_option maxHeartbeats 400000 in
theorem G_into {r w : Nat} {seed sd : Int32} {G S L R : Nat → Int32} {len ac ot om mi sk : Int32} (hG : GrAt h t Rm w sd) (hT : TxAt h x B G S L R len ac ot om mi sk) (hd : t + 2 ≤ x ∨ x + 6 ≤ t) (hr1 : 1 ≤ r) (hr9 : r ≤ 9)
    (hq : ∀ h' Rm' w' sd', GrAt h' t Rm' w' sd' → GxI h' x B (pz G L R) (grB seed r) → so2 h h' t x → Q none n h') : Ok 18 [.ref t, .ref x, .int seed, .int (nI r)] n h Q := by
  refine ok_of kMX2_growInto kCX2_growInto (Nat.le_of_ble_eq_true rfl) (fun z => ?_)
  change A z _ _ 0 0 _ 0 [some (.ref t), some (.ref x), some (.int seed), some (.int (nI r)), none] [] _
  refine go_ok okF1 (C := cdX2_growInto) (by rfl) [22] 30 (by exact Nat.le_of_ble_eq_true rfl) ?_
  simp (maxSteps := 2000000) only [go, stp, inS, ↓reduceIte, Bool.false_eq_true, Nat.reduceLT, Nat.reduceEqDiff, Nat.reduceAdd, ldI, ldL, ldA, st1, st2, okS, List.getElem?_cons_zero, List.getElem?_cons_succ, List.length_cons, List.length_nil, List.set_cons_zero, List.set_cons_succ, callP, callF, popN, ct, Value.category, cI, List.getD_cons_zero, List.getD_cons_succ, and_self, and_true, true_and, Nat.zero_le, Nat.reduceLeDiff, Nat.add_zero, Nat.zero_add, List.nil_append, List.cons_append, Option.toList_some, Option.toList_none, List.append_nil, hset_ss, true_or, or_true, eq_self, beq_self_eq_true, List.drop_succ_cons, List.drop_zero, swT, swL, hset_ap, not_true_eq_false, not_false_eq_true, true_implies, false_implies, implies_true, Int32.reduceLE, Int32.reduceLT, Int32.reduceAdd, Int32.reduceSub, Int32.reduceOfInt, Int32.reduceToNatClampNeg, i10, i01, Nat.add_left_cancel_iff, Nat.left_eq_add, Nat.add_eq_left, cdX2_growInto, F1, hT.1]
  refine X_clear hT (fun h1 hT1 hO1 => ?_)
  have hG1 := hG.kept (fun q a b => hO1 q (by omega))
  have hO1 := (so2.rf (h := h) (t := t) (x := x)).tx hO1
  refine go_ok okF1 (C := cdX2_growInto) (by rfl) [22] 30 (by exact Nat.le_of_ble_eq_true rfl) ?_
  simp (maxSteps := 2000000) only [go, stp, inS, ↓reduceIte, Bool.false_eq_true, Nat.reduceLT, Nat.reduceEqDiff, Nat.reduceAdd, ldI, ldL, ldA, st1, st2, okS, List.getElem?_cons_zero, List.getElem?_cons_succ, List.length_cons, List.length_nil, List.set_cons_zero, List.set_cons_succ, callP, callF, popN, ct, Value.category, cI, List.getD_cons_zero, List.getD_cons_succ, and_self, and_true, true_and, Nat.zero_le, Nat.reduceLeDiff, Nat.add_zero, Nat.zero_add, List.nil_append, List.cons_append, Option.toList_some, Option.toList_none, List.append_nil, hset_ss, true_or, or_true, eq_self, beq_self_eq_true, List.drop_succ_cons, List.drop_zero, swT, swL, hset_ap, not_true_eq_false, not_false_eq_true, true_implies, false_implies, implies_true, Int32.reduceLE, Int32.reduceLT, Int32.reduceAdd, Int32.reduceSub, Int32.reduceOfInt, Int32.reduceToNatClampNeg, i10, i01, Nat.add_left_cancel_iff, Nat.left_eq_add, Nat.add_eq_left, cdX2_growInto, F1, hG1.1]
  refine G_push (w := 0) (sd := seed) (Rm := Rm) ⟨hset_s _ _ _, ?_⟩ (by omega) (fun h2 hG2 hO2 => ?_)
  · rw [hset_n _ _ (by omega)]; exact hG1.2
  have hO2' : sOff h1 h2 t (t + 2) := fun q hq => by rw [hO2 q hq, hset_n _ _ (by omega)]
  have hX2 : GxI h2 x B (pz G L R) [] := ⟨S, by rw [wr_nil]; exact hT1.kept (fun q a b => hO2' q (by omega)), fun hw => absurd (show (1 : Nat) = 0 from hw.2.1) (by decide), pI_0 G L R⟩
  have loop : ∀ m i (g : gT) (h' : aH) (Rm' : Nat → Int32), i + m = 9 → gInv (pz G L R) i g → gF m g = gF 9 ([r], seed, []) → GrAt h' t Rm' g.1.length g.2.1 → stk Rm' g.1 → GxI h' x B (pz G L R) g.2.2 → so2 h h' t x → A z 18 n 0 0 h' 22 [some (.ref t), some (.ref x), some (.int seed), some (.int (nI r)), some (.int (nI i))] [] Q := by
    intro m
    induction m with
    | zero =>
      intro i g h' Rm' hi hI hF hG' hs hX' hO'
      have : i = 9 := by omega
      subst this
      refine go_ok okF1 (C := cdX2_growInto) (by rfl) [22] 30 (by exact Nat.le_of_ble_eq_true rfl) ?_
      simp (maxSteps := 2000000) only [go, stp, inS, ↓reduceIte, Bool.false_eq_true, Nat.reduceLT, Nat.reduceEqDiff, Nat.reduceAdd, ldI, ldL, ldA, st1, st2, okS, List.getElem?_cons_zero, List.getElem?_cons_succ, List.length_cons, List.length_nil, List.set_cons_zero, List.set_cons_succ, callP, callF, popN, ct, Value.category, cI, List.getD_cons_zero, List.getD_cons_succ, and_self, and_true, true_and, Nat.zero_le, Nat.reduceLeDiff, Nat.add_zero, Nat.zero_add, List.nil_append, List.cons_append, Option.toList_some, Option.toList_none, List.append_nil, hset_ss, true_or, or_true, eq_self, beq_self_eq_true, List.drop_succ_cons, List.drop_zero, swT, swL, hset_ap, not_true_eq_false, not_false_eq_true, true_implies, false_implies, implies_true, Int32.reduceLE, Int32.reduceLT, Int32.reduceAdd, Int32.reduceSub, Int32.reduceOfInt, Int32.reduceToNatClampNeg, i10, i01, Nat.add_left_cancel_iff, Nat.left_eq_add, Nat.add_eq_left, cdX2_growInto, F1, (show (9 : Int32) ≤ nI 9 by decide)]
      refine hq h' _ _ _ hG' ?_ hO'
      rw [grB, ← hF]; exact hX'
    | succ m ih =>
      intro i g h' Rm' hi hI hF hG' hs hX' hO'
      have hlt : ¬ (9 : Int32) ≤ nI i := by rw [show (9 : Int32) = nI 9 from rfl, i_le (by omega) (by omega)]; omega
      obtain ⟨st, sd', o⟩ := g
      cases st with
      | nil =>
        refine go_ok okF1 (C := cdX2_growInto) (by rfl) [22] 30 (by exact Nat.le_of_ble_eq_true rfl) ?_
        simp (maxSteps := 2000000) only [go, stp, inS, ↓reduceIte, Bool.false_eq_true, Nat.reduceLT, Nat.reduceEqDiff, Nat.reduceAdd, ldI, ldL, ldA, st1, st2, okS, List.getElem?_cons_zero, List.getElem?_cons_succ, List.length_cons, List.length_nil, List.set_cons_zero, List.set_cons_succ, callP, callF, popN, ct, Value.category, cI, List.getD_cons_zero, List.getD_cons_succ, and_self, and_true, true_and, Nat.zero_le, Nat.reduceLeDiff, Nat.add_zero, Nat.zero_add, List.nil_append, List.cons_append, Option.toList_some, Option.toList_none, List.append_nil, hset_ss, true_or, or_true, eq_self, beq_self_eq_true, List.drop_succ_cons, List.drop_zero, swT, swL, hset_ap, not_true_eq_false, not_false_eq_true, true_implies, false_implies, implies_true, Int32.reduceLE, Int32.reduceLT, Int32.reduceAdd, Int32.reduceSub, Int32.reduceOfInt, Int32.reduceToNatClampNeg, i10, i01, Nat.add_left_cancel_iff, Nat.left_eq_add, Nat.add_eq_left, cdX2_growInto, F1, hlt, hG'.1, show nI 0 ≤ 0 by decide]
        refine hq h' _ _ _ hG' ?_ hO'
        rw [gF_nil] at hF
        rw [grB, ← hF]; exact hX'
      | cons a rest =>
        have hsum := hI.2.1
        have ha1 : 1 ≤ a := hI.1.1
        have hlen := rmin_len hI.1.2
        have hbt := hI.2.2.1
        simp only [rsum, rwt] at hsum hbt
        have hpos : ¬ nI (rest.length + 1) ≤ 0 := fun c => absurd ((i_le (b := 0) (by omega) (by omega)).mp c) (by omega)
        refine go_ok okF1 (C := cdX2_growInto) (by rfl) [22] 30 (by exact Nat.le_of_ble_eq_true rfl) ?_
        simp (maxSteps := 2000000) only [go, stp, inS, ↓reduceIte, Bool.false_eq_true, Nat.reduceLT, Nat.reduceEqDiff, Nat.reduceAdd, ldI, ldL, ldA, st1, st2, okS, List.getElem?_cons_zero, List.getElem?_cons_succ, List.length_cons, List.length_nil, List.set_cons_zero, List.set_cons_succ, callP, callF, popN, ct, Value.category, cI, List.getD_cons_zero, List.getD_cons_succ, and_self, and_true, true_and, Nat.zero_le, Nat.reduceLeDiff, Nat.add_zero, Nat.zero_add, List.nil_append, List.cons_append, Option.toList_some, Option.toList_none, List.append_nil, hset_ss, true_or, or_true, eq_self, beq_self_eq_true, List.drop_succ_cons, List.drop_zero, swT, swL, hset_ap, not_true_eq_false, not_false_eq_true, true_implies, false_implies, implies_true, Int32.reduceLE, Int32.reduceLT, Int32.reduceAdd, Int32.reduceSub, Int32.reduceOfInt, Int32.reduceToNatClampNeg, i10, i01, Nat.add_left_cancel_iff, Nat.left_eq_add, Nat.add_eq_left, cdX2_growInto, F1, hlt, hG'.1, hpos]
        refine G_pop (w := rest.length) hG' (by omega) (fun h3 hG3 hO3 => ?_)
        have hX3 := hX'.kept (fun q a b => hO3 q (by omega))
        obtain ⟨S3, hx3, -⟩ := id hX3
        have hs1 : Rm' rest.length = nI a := hs.1
        refine go_ok okF1 (C := cdX2_growInto) (by rfl) [22] 30 (by exact Nat.le_of_ble_eq_true rfl) ?_
        simp (maxSteps := 2000000) only [go, stp, inS, ↓reduceIte, Bool.false_eq_true, Nat.reduceLT, Nat.reduceEqDiff, Nat.reduceAdd, ldI, ldL, ldA, st1, st2, okS, List.getElem?_cons_zero, List.getElem?_cons_succ, List.length_cons, List.length_nil, List.set_cons_zero, List.set_cons_succ, callP, callF, popN, ct, Value.category, cI, List.getD_cons_zero, List.getD_cons_succ, and_self, and_true, true_and, Nat.zero_le, Nat.reduceLeDiff, Nat.add_zero, Nat.zero_add, List.nil_append, List.cons_append, Option.toList_some, Option.toList_none, List.append_nil, hset_ss, true_or, or_true, eq_self, beq_self_eq_true, List.drop_succ_cons, List.drop_zero, swT, swL, hset_ap, not_true_eq_false, not_false_eq_true, true_implies, false_implies, implies_true, Int32.reduceLE, Int32.reduceLT, Int32.reduceAdd, Int32.reduceSub, Int32.reduceOfInt, Int32.reduceToNatClampNeg, i10, i01, Nat.add_left_cancel_iff, Nat.left_eq_add, Nat.add_eq_left, cdX2_growInto, F1, hG3.1, hs1]
        refine G_sign hG3 hs.2 hX3 hd (by show o.length + 5 ≤ 40; omega) hI.1.1 hI.1.2 (by omega) (fun h4 Rm4 hG4 hs4 hX4 hO4 => ?_)
        refine go_ok okF1 (C := cdX2_growInto) (by rfl) [22] 30 (by exact Nat.le_of_ble_eq_true rfl) ?_
        simp (maxSteps := 2000000) only [go, stp, inS, ↓reduceIte, Bool.false_eq_true, Nat.reduceLT, Nat.reduceEqDiff, Nat.reduceAdd, ldI, ldL, ldA, st1, st2, okS, List.getElem?_cons_zero, List.getElem?_cons_succ, List.length_cons, List.length_nil, List.set_cons_zero, List.set_cons_succ, callP, callF, popN, ct, Value.category, cI, List.getD_cons_zero, List.getD_cons_succ, and_self, and_true, true_and, Nat.zero_le, Nat.reduceLeDiff, Nat.add_zero, Nat.zero_add, List.nil_append, List.cons_append, Option.toList_some, Option.toList_none, List.append_nil, hset_ss, true_or, or_true, eq_self, beq_self_eq_true, List.drop_succ_cons, List.drop_zero, swT, swL, hset_ap, not_true_eq_false, not_false_eq_true, true_implies, false_implies, implies_true, Int32.reduceLE, Int32.reduceLT, Int32.reduceAdd, Int32.reduceSub, Int32.reduceOfInt, Int32.reduceToNatClampNeg, i10, i01, Nat.add_left_cancel_iff, Nat.left_eq_add, Nat.add_eq_left, cdX2_growInto, F1, nI_1]
        exact ih (i + 1) (gstep (a :: rest, sd', o)) h4 Rm4 (by omega) (gInv_step hI) hF hG4 hs4 hX4 ((hO'.g hO3).tr hO4)
  refine go_ok okF1 (C := cdX2_growInto) (by rfl) [22] 30 (by exact Nat.le_of_ble_eq_true rfl) ?_
  simp (maxSteps := 2000000) only [go, stp, inS, ↓reduceIte, Bool.false_eq_true, Nat.reduceLT, Nat.reduceEqDiff, Nat.reduceAdd, ldI, ldL, ldA, st1, st2, okS, List.getElem?_cons_zero, List.getElem?_cons_succ, List.length_cons, List.length_nil, List.set_cons_zero, List.set_cons_succ, callP, callF, popN, ct, Value.category, cI, List.getD_cons_zero, List.getD_cons_succ, and_self, and_true, true_and, Nat.zero_le, Nat.reduceLeDiff, Nat.add_zero, Nat.zero_add, List.nil_append, List.cons_append, Option.toList_some, Option.toList_none, List.append_nil, hset_ss, true_or, or_true, eq_self, beq_self_eq_true, List.drop_succ_cons, List.drop_zero, swT, swL, hset_ap, not_true_eq_false, not_false_eq_true, true_implies, false_implies, implies_true, Int32.reduceLE, Int32.reduceLT, Int32.reduceAdd, Int32.reduceSub, Int32.reduceOfInt, Int32.reduceToNatClampNeg, i10, i01, Nat.add_left_cancel_iff, Nat.left_eq_add, Nat.add_eq_left, cdX2_growInto, F1]
  exact loop 9 0 ([r], seed, []) h2 _ (by omega) (gInv_0 hr1 hr9) rfl hG2 ⟨pk_us, trivial⟩ hX2 (hO1.g hO2')
end GR
