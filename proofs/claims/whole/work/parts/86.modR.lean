
/-! the model: reading -/
def kdK (τ : Int32) : Int32 := if τ = -100 then 4 else if 20 ≤ τ then τ - 20 else 3
def nmK (τ : Int32) : Int32 := if τ = -100 ∨ 20 ≤ τ then 0 else τ
theorem kd_c : ∀ j, j < 100 → 97 ≤ j → tmO 0 (nI j) = 20 + (nI j - 97) ∧ kdK (20 + (nI j - 97)) = nI j - 97 ∧ nmK (20 + (nI j - 97)) = 0 ∧ ¬ nI j = 110 ∧ ¬ nI j = 45 := by decide +kernel
theorem kd_n : tmO 0 110 = -100 ∧ kdK (-100) = 4 ∧ nmK (-100) = 0 := by decide +kernel
theorem kd_d : ∀ j, j < 58 → 48 ≤ j → tmO 0 (nI j) = nI j - 48 ∧ kdK (nI j - 48) = 3 ∧ nmK (nI j - 48) = 1 * (nI j - 48) ∧ tmO 1 (nI j) = 48 - nI j ∧ kdK (48 - nI j) = 3 ∧ nmK (48 - nI j) = (-1) * (nI j - 48) ∧ ¬ nI j = 110 ∧ ¬ nI j = 45 ∧ ¬ (97 ≤ nI j ∧ nI j ≤ 99) := by decide +kernel
theorem tm_no0 {b : Int32} (h1 : ¬ (97 ≤ b ∧ b ≤ 99)) (h2 : ¬ b = 110) (h3 : ¬ (48 ≤ b ∧ b ≤ 57)) : tmO 0 b = 1000 := by
  unfold tmO; rw [if_neg h3, if_neg (by decide), if_neg h1, if_neg h2]
theorem tm_no1 {b : Int32} (h3 : ¬ (48 ≤ b ∧ b ≤ 57)) : tmO 1 b = 1000 := by
  unfold tmO; rw [if_neg h3, if_pos rfl]
def hr (B : Nat → Int32) (len p : Nat) : Int32 := if p < len then B p else -1
theorem pS_I (B : Nat → Int32) : ∀ k, pI (pS B k) k
  | 0 => pI_0 _ _ _
  | k + 1 => pI_step (pS_I B k)
theorem pS_skip (B : Nat → Int32) {k : Nat} (h : ¬ (pS B k).2.2.2.2.1 = -1) : ∀ j, pS B (k + j) = pS B k
  | 0 => rfl
  | j + 1 => by
    rw [← Nat.add_assoc, pS, pS_skip B h j]
    generalize pS B k = s at h ⊢
    obtain ⟨ac, ot, om, mi, sk, G, L, R⟩ := s
    unfold pstep
    dsimp only at h ⊢
    rw [if_pos h]
-- where a text is at fault
def flF (B : Nat → Int32) (len p : Nat) : Prop := flt (pS B len) len = nI p ∧ ¬ pwB (pS B len) = true ∧ p ≤ 40
theorem fl_end {B : Nat → Int32} {len : Nat} (hl : len ≤ 40) (h1 : (pS B len).2.2.2.2.1 = -1) (h2 : ¬ ((pS B len).2.1 = 0 ∧ (pS B len).2.2.1 = 0)) : flF B len len := by
  refine ⟨?_, fun q => ?_, hl⟩
  · unfold flt; rw [if_neg (fun q => q h1), if_neg h2]
  · have := pwB_iff.mp q; exact h2 this.2
theorem fl_skip {B : Nat → Int32} {len p : Nat} (hl : len ≤ 40) (hp : p < len) (h1 : (pS B (p + 1)).2.2.2.2.1 = nI p) : flF B len p := by
  have h0 : ¬ nI p = -1 := fun q => by
    have := congrArg Int32.toInt q
    rw [nI_toInt (by omega), show (-1 : Int32).toInt = -1 from rfl] at this; omega
  have e := pS_skip B (k := p + 1) (by rw [h1]; exact h0) (len - (p + 1))
  rw [show p + 1 + (len - (p + 1)) = len by omega] at e
  refine ⟨?_, fun q => ?_, by omega⟩
  · unfold flt; rw [e, h1, if_pos h0]
  · have := (pwB_iff.mp q).1; rw [e, h1] at this; exact h0 this
section MR
variable {n : Nat} {h : aH} {Q : aQ} {M : MS} {c : Nat → Int32} {a : Nat → Nat → Int32} {l : Nat → Nat → Int64} {B : Nat → Int32} {len t : Nat}
def rdT (a : Nat → Nat → Int32) (t : Nat) (B : Nat → Int32) (len : Nat) : Prop := t < 2 ∧ len ≤ 40 ∧ a 10 t = nI len ∧ ∀ i, i < len → a 9 (40 * t + i) = B i
set_option maxRecDepth 100000 in
set_option maxHeartbeats 400000 in
theorem D_here {p : Nat} (m : MH h c a l) (hT : rdT a t B len) (hp : c 11 = nI p) (hpl : p ≤ len) (hq : Q (some (.int (hr B len p))) n h) : Ok 169 [.ref 52, .int (nI t)] n h Q := by
  obtain ⟨ht, hl, h10, h9⟩ := hT
  unfold hr at hq
  refine ok_of kMX11_here kCX11_here (Nat.le_of_ble_eq_true rfl) (fun z => ?_)
  change A z _ _ 0 0 _ 0 [some (.ref 52), some (.int (nI t))] [] _
  by_cases e : p < len
  · have e2 : ¬ nI len ≤ nI p := by rw [i_le (by omega) (by omega)]; omega
    refine go_ok okF1 (C := cdX11_here) (by rfl) [] 30 (by exact Nat.le_of_ble_eq_true rfl) ?_
    simp (maxSteps := 2000000) only [go, stp, inS, ↓reduceIte, Bool.false_eq_true, Nat.reduceLT, Nat.reduceEqDiff, Nat.reduceAdd, ldI, ldL, ldA, st1, st2, okS, List.getElem?_cons_zero, List.getElem?_cons_succ, List.length_cons, List.length_nil, List.set_cons_zero, List.set_cons_succ, callP, callF, popN, ct, Value.category, cI, List.getD_cons_zero, List.getD_cons_succ, and_self, and_true, true_and, Nat.zero_le, Nat.reduceLeDiff, Nat.add_zero, Nat.zero_add, List.nil_append, List.cons_append, Option.toList_some, Option.toList_none, List.append_nil, hset_ss, true_or, or_true, eq_self, beq_self_eq_true, List.drop_succ_cons, List.drop_zero, swT, swL, hset_ap, not_true_eq_false, not_false_eq_true, true_implies, false_implies, implies_true, Int32.reduceLE, Int32.reduceLT, Int32.reduceAdd, Int32.reduceSub, Int32.reduceOfInt, Int32.reduceToNatClampNeg, i10, i01, Nat.add_left_cancel_iff, Nat.left_eq_add, Nat.add_eq_left, cdX11_here, F1, m.o, m.a10, m.a9, hp, i_cl (show t < 2147483648 by omega), h10, e2, ix40, i_cl (show 40 * t + p < 2147483648 by omega), h9 p e]
    repeat refine ⟨vp_in_nI (by omega) (by omega), ?_⟩
    rw [if_pos e] at hq; exact hq
  · have e2 : nI len ≤ nI p := by rw [i_le (by omega) (by omega)]; omega
    refine go_ok okF1 (C := cdX11_here) (by rfl) [] 30 (by exact Nat.le_of_ble_eq_true rfl) ?_
    simp (maxSteps := 2000000) only [go, stp, inS, ↓reduceIte, Bool.false_eq_true, Nat.reduceLT, Nat.reduceEqDiff, Nat.reduceAdd, ldI, ldL, ldA, st1, st2, okS, List.getElem?_cons_zero, List.getElem?_cons_succ, List.length_cons, List.length_nil, List.set_cons_zero, List.set_cons_succ, callP, callF, popN, ct, Value.category, cI, List.getD_cons_zero, List.getD_cons_succ, and_self, and_true, true_and, Nat.zero_le, Nat.reduceLeDiff, Nat.add_zero, Nat.zero_add, List.nil_append, List.cons_append, Option.toList_some, Option.toList_none, List.append_nil, hset_ss, true_or, or_true, eq_self, beq_self_eq_true, List.drop_succ_cons, List.drop_zero, swT, swL, hset_ap, not_true_eq_false, not_false_eq_true, true_implies, false_implies, implies_true, Int32.reduceLE, Int32.reduceLT, Int32.reduceAdd, Int32.reduceSub, Int32.reduceOfInt, Int32.reduceToNatClampNeg, i10, i01, Nat.add_left_cancel_iff, Nat.left_eq_add, Nat.add_eq_left, cdX11_here, F1, m.o, m.a10, hp, i_cl (show t < 2147483648 by omega), h10, e2]
    repeat refine ⟨vp_in_nI (by omega) (by omega), ?_⟩
    rw [if_neg e] at hq; exact hq
def tmS (s : pT) (τ : Int32) : pT := match s with
  | (ac, ot, om, mi, sk, G, L, R) => if om = 2 then (ac, ot, 1, 0, sk, G, upd L (ac - 1) τ, R) else (ac, ot, 0, 0, sk, G, L, upd R (ac - 1) τ)
theorem tm_step {B : Nat → Int32} {p mi ac ot om : Nat} {G L R : Nat → Int32} (hs : pS B p = (ac, ot, om, mi, -1, G, L, R)) (h0 : 0 < om) (hb : ¬ (B p = 45 ∧ mi = 0)) (ht : ¬ tmO mi (B p) = 1000) : pS B (p + 1) = tmS (ac, ot, om, 0, -1, G, L, R) (tmO mi (B p)) := by
  rw [pS, hs]
  unfold pstep tmS
  dsimp only
  rw [if_neg (fun q => q rfl), if_pos h0, if_neg hb, if_neg ht]
theorem tm_bad {B : Nat → Int32} {p mi ac ot om : Nat} {G L R : Nat → Int32} (hs : pS B p = (ac, ot, om, mi, -1, G, L, R)) (h0 : 0 < om) (hb : ¬ (B p = 45 ∧ mi = 0)) (ht : tmO mi (B p) = 1000) : (pS B (p + 1)).2.2.2.2.1 = nI p := by
  rw [pS, hs]
  unfold pstep
  dsimp only
  rw [if_neg (fun q => q rfl), if_pos h0, if_neg hb, if_pos ht]
theorem tm_min {B : Nat → Int32} {p ac ot om : Nat} {G L R : Nat → Int32} (hs : pS B p = (ac, ot, om, 0, -1, G, L, R)) (h0 : 0 < om) (hb : B p = 45) : pS B (p + 1) = (ac, ot, om, 1, -1, G, L, R) := by
  rw [pS, hs]
  unfold pstep
  dsimp only
  rw [if_neg (fun q => q rfl), if_pos h0, if_pos ⟨hb, rfl⟩]
theorem in97 (x : Int32) : ((97 : Int64) ≤ x.toInt64 ∧ x.toInt64 ≤ 99) = (97 ≤ x ∧ x ≤ 99) := by
  rw [show (97 : Int64) = (97 : Int32).toInt64 from rfl, show (99 : Int64) = (99 : Int32).toInt64 from rfl, in64]
theorem in48 (x : Int32) : ((48 : Int64) ≤ x.toInt64 ∧ x.toInt64 ≤ 57) = (48 ≤ x ∧ x ≤ 57) := by
  rw [show (48 : Int64) = (48 : Int32).toInt64 from rfl, show (57 : Int64) = (57 : Int32).toInt64 from rfl, in64]
theorem hr_end {B : Nat → Int32} {len : Nat} : hr B len len = -1 := by unfold hr; rw [if_neg (by omega)]
set_option maxRecDepth 100000 in
set_option maxHeartbeats 400000 in
theorem D_term {p ac ot om : Nat} {G L R : Nat → Int32} (m : MH h c a l) (hT : rdT a t B len) (hp : c 11 = nI p) (hpl : p ≤ len) (hs : pS B p = (ac, ot, om, 0, -1, G, L, R)) (h0 : 0 < om)
    (hqS : ∀ p' τ, p < p' → p' ≤ len → pS B p' = tmS (ac, ot, om, 0, -1, G, L, R) τ → ∀ h' c', MH h' c' a l → c' 19 = kdK τ → c' 20 = nmK τ → c' 11 = nI p' → (∀ i, i ≠ 11 → i ≠ 19 → i ≠ 20 → c' i = c i) → sOff h h' 52 80 → Q (some (.int 1)) n h')
    (hqF : ∀ p', flF B len p' → ∀ h' c', MH h' c' a l → c' 11 = nI p' → (∀ i, i ≠ 11 → i ≠ 19 → i ≠ 20 → c' i = c i) → sOff h h' 52 80 → Q (some (.int 0)) n h') : Ok 170 [.ref 52, .int (nI t)] n h Q := by
  have hl := hT.2.1
  refine ok_of kMX11_readsTerm kCX11_readsTerm (Nat.le_of_ble_eq_true rfl) (fun z => ?_)
  change A z _ _ 0 0 _ 0 [some (.ref 52), some (.int (nI t)), none, none] [] _
  refine go_ok okF1 (C := cdX11_readsTerm) (by rfl) [] 60 (by exact Nat.le_of_ble_eq_true rfl) ?_
  simp (maxSteps := 2000000) only [go, stp, inS, ↓reduceIte, Bool.false_eq_true, Nat.reduceLT, Nat.reduceEqDiff, Nat.reduceAdd, ldI, ldL, ldA, st1, st2, okS, List.getElem?_cons_zero, List.getElem?_cons_succ, List.length_cons, List.length_nil, List.set_cons_zero, List.set_cons_succ, callP, callF, popN, ct, Value.category, cI, List.getD_cons_zero, List.getD_cons_succ, and_self, and_true, true_and, Nat.zero_le, Nat.reduceLeDiff, Nat.add_zero, Nat.zero_add, List.nil_append, List.cons_append, Option.toList_some, Option.toList_none, List.append_nil, hset_ss, true_or, or_true, eq_self, beq_self_eq_true, List.drop_succ_cons, List.drop_zero, swT, swL, hset_ap, not_true_eq_false, not_false_eq_true, true_implies, false_implies, implies_true, Int32.reduceLE, Int32.reduceLT, Int32.reduceAdd, Int32.reduceSub, Int32.reduceOfInt, Int32.reduceToNatClampNeg, i10, i01, Nat.add_left_cancel_iff, Nat.left_eq_add, Nat.add_eq_left, cdX11_readsTerm, F1, m.o]
  refine D_here m hT hp hpl ?_
  have tail : ∀ p1 mi (b sg : Int32) h1 c1, (mi = 0 ∧ sg = 1 ∨ mi = 1 ∧ sg = -1) → p ≤ p1 → p1 ≤ len → MH h1 c1 a l → c1 11 = nI p1 → (∀ i, i ≠ 11 → i ≠ 19 → i ≠ 20 → c1 i = c i) → sOff h h1 52 80 → pS B p1 = (ac, ot, om, mi, -1, G, L, R) → (p1 < len → ¬ (B p1 = 45 ∧ mi = 0) ∧ (mi = 0 → ¬ (97 ≤ B p1 ∧ B p1 ≤ 99) ∧ ¬ B p1 = 110)) → A z 170 n 0 0 h1 81 [some (.ref 52), some (.int (nI t)), some (.int b), some (.int sg)] [] Q := by
    intro p1 mi b sg h1 c1 hmi g1 g2 m1 hp1 hf1 hO1 hs1 hb1
    refine go_ok okF1 (C := cdX11_readsTerm) (by rfl) [] 60 (by exact Nat.le_of_ble_eq_true rfl) ?_
    simp (maxSteps := 2000000) only [go, stp, inS, ↓reduceIte, Bool.false_eq_true, Nat.reduceLT, Nat.reduceEqDiff, Nat.reduceAdd, ldI, ldL, ldA, st1, st2, okS, List.getElem?_cons_zero, List.getElem?_cons_succ, List.length_cons, List.length_nil, List.set_cons_zero, List.set_cons_succ, callP, callF, popN, ct, Value.category, cI, List.getD_cons_zero, List.getD_cons_succ, and_self, and_true, true_and, Nat.zero_le, Nat.reduceLeDiff, Nat.add_zero, Nat.zero_add, List.nil_append, List.cons_append, Option.toList_some, Option.toList_none, List.append_nil, hset_ss, true_or, or_true, eq_self, beq_self_eq_true, List.drop_succ_cons, List.drop_zero, swT, swL, hset_ap, not_true_eq_false, not_false_eq_true, true_implies, false_implies, implies_true, Int32.reduceLE, Int32.reduceLT, Int32.reduceAdd, Int32.reduceSub, Int32.reduceOfInt, Int32.reduceToNatClampNeg, i10, i01, Nat.add_left_cancel_iff, Nat.left_eq_add, Nat.add_eq_left, cdX11_readsTerm, F1, m1.o]
    refine D_here m1 hT hp1 g2 ?_
    by_cases d : 48 ≤ hr B len p1 ∧ hr B len p1 ≤ 57
    · have e : p1 < len := Decidable.byContradiction fun q => by
        have : hr B len p1 = -1 := by unfold hr; rw [if_neg q]
        rw [this] at d; exact absurd d (by decide)
      have eh : hr B len p1 = B p1 := by unfold hr; rw [if_pos e]
      rw [eh] at d ⊢
      obtain ⟨j, h48, h57, ej⟩ := i_rng (a := 48) (b := 57) (by omega) d.1 d.2 (by omega)
      obtain ⟨k1, k2, k3, k4, k5, k6, k7, k8, k9⟩ := kd_d j (by omega) h48
      have nt : ¬ tmO mi (B p1) = 1000 := by
        rcases hmi with ⟨rfl, -⟩ | ⟨rfl, -⟩
        · rw [ej, k1]; exact (by decide +kernel : ∀ j, j < 58 → 48 ≤ j → ¬ nI j - 48 = 1000) j (by omega) h48
        · rw [ej, k4]; exact (by decide +kernel : ∀ j, j < 58 → 48 ≤ j → ¬ 48 - nI j = 1000) j (by omega) h48
      have st := tm_step hs1 h0 (hb1 e).1 nt
      refine go_ok okF1 (C := cdX11_readsTerm) (by rfl) [] 60 (by exact Nat.le_of_ble_eq_true rfl) ?_
      simp (maxSteps := 2000000) only [go, stp, inS, ↓reduceIte, Bool.false_eq_true, Nat.reduceLT, Nat.reduceEqDiff, Nat.reduceAdd, ldI, ldL, ldA, st1, st2, okS, List.getElem?_cons_zero, List.getElem?_cons_succ, List.length_cons, List.length_nil, List.set_cons_zero, List.set_cons_succ, callP, callF, popN, ct, Value.category, cI, List.getD_cons_zero, List.getD_cons_succ, and_self, and_true, true_and, Nat.zero_le, Nat.reduceLeDiff, Nat.add_zero, Nat.zero_add, List.nil_append, List.cons_append, Option.toList_some, Option.toList_none, List.append_nil, hset_ss, true_or, or_true, eq_self, beq_self_eq_true, List.drop_succ_cons, List.drop_zero, swT, swL, hset_ap, not_true_eq_false, not_false_eq_true, true_implies, false_implies, implies_true, Int32.reduceLE, Int32.reduceLT, Int32.reduceAdd, Int32.reduceSub, Int32.reduceOfInt, Int32.reduceToNatClampNeg, i10, i01, Nat.add_left_cancel_iff, Nat.left_eq_add, Nat.add_eq_left, cdX11_readsTerm, F1, in48, eq_true d, m1.o]
      have m2 := m1.sc (upd c1 19 3)
      refine D_here (p := p1) m2 hT hp1 g2 ?_
      rw [eh]
      refine go_ok okF1 (C := cdX11_readsTerm) (by rfl) [] 60 (by exact Nat.le_of_ble_eq_true rfl) ?_
      simp (maxSteps := 2000000) only [go, stp, inS, ↓reduceIte, Bool.false_eq_true, Nat.reduceLT, Nat.reduceEqDiff, Nat.reduceAdd, ldI, ldL, ldA, st1, st2, okS, List.getElem?_cons_zero, List.getElem?_cons_succ, List.length_cons, List.length_nil, List.set_cons_zero, List.set_cons_succ, callP, callF, popN, ct, Value.category, cI, List.getD_cons_zero, List.getD_cons_succ, and_self, and_true, true_and, Nat.zero_le, Nat.reduceLeDiff, Nat.add_zero, Nat.zero_add, List.nil_append, List.cons_append, Option.toList_some, Option.toList_none, List.append_nil, hset_ss, true_or, or_true, eq_self, beq_self_eq_true, List.drop_succ_cons, List.drop_zero, swT, swL, hset_ap, not_true_eq_false, not_false_eq_true, true_implies, false_implies, implies_true, Int32.reduceLE, Int32.reduceLT, Int32.reduceAdd, Int32.reduceSub, Int32.reduceOfInt, Int32.reduceToNatClampNeg, i10, i01, Nat.add_left_cancel_iff, Nat.left_eq_add, Nat.add_eq_left, cdX11_readsTerm, F1, m2.o, hp1, nI_1]
      refine hqS (p1 + 1) _ (by omega) (by omega) st _ _ (m1.sc (upd (upd (upd c1 19 3) 20 (sg * (B p1 - 48))) 11 (nI (p1 + 1)))) ?_ ?_ rfl (fun i i1 i2 i3 => by rw [pk_un i1, pk_un i3, pk_un i2]; exact hf1 i i1 i2 i3) (hO1.set (by omega) (by omega))
      · rcases hmi with ⟨rfl, -⟩ | ⟨rfl, -⟩
        · rw [ej, k1]; exact k2.symm
        · rw [ej, k4]; exact k5.symm
      · rcases hmi with ⟨rfl, rfl⟩ | ⟨rfl, rfl⟩
        · rw [ej, k1]; exact k3.symm
        · rw [ej, k4]; exact k6.symm
    · refine go_ok okF1 (C := cdX11_readsTerm) (by rfl) [] 60 (by exact Nat.le_of_ble_eq_true rfl) ?_
      simp (maxSteps := 2000000) only [go, stp, inS, ↓reduceIte, Bool.false_eq_true, Nat.reduceLT, Nat.reduceEqDiff, Nat.reduceAdd, ldI, ldL, ldA, st1, st2, okS, List.getElem?_cons_zero, List.getElem?_cons_succ, List.length_cons, List.length_nil, List.set_cons_zero, List.set_cons_succ, callP, callF, popN, ct, Value.category, cI, List.getD_cons_zero, List.getD_cons_succ, and_self, and_true, true_and, Nat.zero_le, Nat.reduceLeDiff, Nat.add_zero, Nat.zero_add, List.nil_append, List.cons_append, Option.toList_some, Option.toList_none, List.append_nil, hset_ss, true_or, or_true, eq_self, beq_self_eq_true, List.drop_succ_cons, List.drop_zero, swT, swL, hset_ap, not_true_eq_false, not_false_eq_true, true_implies, false_implies, implies_true, Int32.reduceLE, Int32.reduceLT, Int32.reduceAdd, Int32.reduceSub, Int32.reduceOfInt, Int32.reduceToNatClampNeg, i10, i01, Nat.add_left_cancel_iff, Nat.left_eq_add, Nat.add_eq_left, cdX11_readsTerm, F1, in48, eq_false d]
      refine hqF p1 ?_ h1 c1 m1 hp1 hf1 hO1
      by_cases e : p1 < len
      · have eh : hr B len p1 = B p1 := by unfold hr; rw [if_pos e]
        rw [eh] at d
        refine fl_skip hl e (tm_bad hs1 h0 (hb1 e).1 ?_)
        rcases hmi with ⟨rfl, -⟩ | ⟨rfl, -⟩
        · exact tm_no0 ((hb1 e).2 rfl).1 ((hb1 e).2 rfl).2 d
        · exact tm_no1 d
      · obtain rfl : p1 = len := by omega
        exact fl_end hl (by rw [hs1]) (by rw [hs1]; exact fun q => absurd (show om = 0 from q.2) (by omega))
  have hO1 : sOff h (hset h 52 (oM (upd c 20 0))) 52 80 := sOff.rf.set (by omega) (by omega)
  have m1 := m.sc (upd c 20 0)
  have f1 : ∀ i, i ≠ 11 → i ≠ 19 → i ≠ 20 → upd c 20 0 i = c i := fun i i1 i2 i3 => by rw [pk_un i3]
  by_cases e : p < len
  · have eh : hr B len p = B p := by unfold hr; rw [if_pos e]
    rw [eh]
    by_cases b1 : 97 ≤ B p ∧ B p ≤ 99
    · obtain ⟨j, h97, h99, ej⟩ := i_rng (a := 97) (b := 99) (by omega) b1.1 b1.2 (by omega)
      obtain ⟨k1, k2, k3, k4, k5⟩ := kd_c j (by omega) h97
      rw [← ej] at k1 k2 k3 k4 k5
      refine go_ok okF1 (C := cdX11_readsTerm) (by rfl) [] 60 (by exact Nat.le_of_ble_eq_true rfl) ?_
      simp (maxSteps := 2000000) only [go, stp, inS, ↓reduceIte, Bool.false_eq_true, Nat.reduceLT, Nat.reduceEqDiff, Nat.reduceAdd, ldI, ldL, ldA, st1, st2, okS, List.getElem?_cons_zero, List.getElem?_cons_succ, List.length_cons, List.length_nil, List.set_cons_zero, List.set_cons_succ, callP, callF, popN, ct, Value.category, cI, List.getD_cons_zero, List.getD_cons_succ, and_self, and_true, true_and, Nat.zero_le, Nat.reduceLeDiff, Nat.add_zero, Nat.zero_add, List.nil_append, List.cons_append, Option.toList_some, Option.toList_none, List.append_nil, hset_ss, true_or, or_true, eq_self, beq_self_eq_true, List.drop_succ_cons, List.drop_zero, swT, swL, hset_ap, not_true_eq_false, not_false_eq_true, true_implies, false_implies, implies_true, Int32.reduceLE, Int32.reduceLT, Int32.reduceAdd, Int32.reduceSub, Int32.reduceOfInt, Int32.reduceToNatClampNeg, i10, i01, Nat.add_left_cancel_iff, Nat.left_eq_add, Nat.add_eq_left, cdX11_readsTerm, F1, m.o, in97, eq_true b1, k4, hp, nI_1]
      refine hqS (p + 1) (20 + (B p - 97)) (by omega) (by omega) (by rw [tm_step hs h0 (fun q => k5 q.1) (by rw [k1, ej]; exact (by decide +kernel : ∀ j, j < 100 → 97 ≤ j → ¬ 20 + (nI j - 97) = 1000) j (by omega) h97), k1]) _ _ (m.sc (upd (upd (upd c 20 0) 19 (B p - 97)) 11 (nI (p + 1)))) ?_ ?_ rfl (fun i i1 i2 i3 => by rw [pk_un i1, pk_un i2, pk_un i3]) (sOff.rf.set (by omega) (by omega))
      · exact k2.symm
      · exact k3.symm
    · by_cases b2 : B p = 110
      · refine go_ok okF1 (C := cdX11_readsTerm) (by rfl) [] 60 (by exact Nat.le_of_ble_eq_true rfl) ?_
        simp (maxSteps := 2000000) only [go, stp, inS, ↓reduceIte, Bool.false_eq_true, Nat.reduceLT, Nat.reduceEqDiff, Nat.reduceAdd, ldI, ldL, ldA, st1, st2, okS, List.getElem?_cons_zero, List.getElem?_cons_succ, List.length_cons, List.length_nil, List.set_cons_zero, List.set_cons_succ, callP, callF, popN, ct, Value.category, cI, List.getD_cons_zero, List.getD_cons_succ, and_self, and_true, true_and, Nat.zero_le, Nat.reduceLeDiff, Nat.add_zero, Nat.zero_add, List.nil_append, List.cons_append, Option.toList_some, Option.toList_none, List.append_nil, hset_ss, true_or, or_true, eq_self, beq_self_eq_true, List.drop_succ_cons, List.drop_zero, swT, swL, hset_ap, not_true_eq_false, not_false_eq_true, true_implies, false_implies, implies_true, Int32.reduceLE, Int32.reduceLT, Int32.reduceAdd, Int32.reduceSub, Int32.reduceOfInt, Int32.reduceToNatClampNeg, i10, i01, Nat.add_left_cancel_iff, Nat.left_eq_add, Nat.add_eq_left, cdX11_readsTerm, F1, m.o, in97, eq_false b1, b2, hp, nI_1]
        refine hqS (p + 1) (-100) (by omega) (by omega) (by rw [tm_step hs h0 (fun q => by rw [b2] at q; exact absurd q.1 (by decide)) (by rw [b2]; decide), b2, kd_n.1]) _ _ (m.sc (upd (upd (upd c 20 0) 19 4) 11 (nI (p + 1)))) rfl rfl rfl (fun i i1 i2 i3 => by rw [pk_un i1, pk_un i2, pk_un i3]) (sOff.rf.set (by omega) (by omega))
      · by_cases b3 : B p = 45
        · refine go_ok okF1 (C := cdX11_readsTerm) (by rfl) [81] 60 (by exact Nat.le_of_ble_eq_true rfl) ?_
          simp (maxSteps := 2000000) only [go, stp, inS, ↓reduceIte, Bool.false_eq_true, Nat.reduceLT, Nat.reduceEqDiff, Nat.reduceAdd, ldI, ldL, ldA, st1, st2, okS, List.getElem?_cons_zero, List.getElem?_cons_succ, List.length_cons, List.length_nil, List.set_cons_zero, List.set_cons_succ, callP, callF, popN, ct, Value.category, cI, List.getD_cons_zero, List.getD_cons_succ, and_self, and_true, true_and, Nat.zero_le, Nat.reduceLeDiff, Nat.add_zero, Nat.zero_add, List.nil_append, List.cons_append, Option.toList_some, Option.toList_none, List.append_nil, hset_ss, true_or, or_true, eq_self, beq_self_eq_true, List.drop_succ_cons, List.drop_zero, swT, swL, hset_ap, not_true_eq_false, not_false_eq_true, true_implies, false_implies, implies_true, Int32.reduceLE, Int32.reduceLT, Int32.reduceAdd, Int32.reduceSub, Int32.reduceOfInt, Int32.reduceToNatClampNeg, i10, i01, Nat.add_left_cancel_iff, Nat.left_eq_add, Nat.add_eq_left, cdX11_readsTerm, F1, m.o, in97, eq_false b1, b2, eq_true b3, hp, nI_1]
          refine tail (p + 1) 1 _ _ _ (upd (upd c 20 0) 11 (nI (p + 1))) (Or.inr ⟨rfl, rfl⟩) (by omega) (by omega) (m.sc (upd (upd c 20 0) 11 (nI (p + 1)))) rfl (fun i i1 i2 i3 => by rw [pk_un i1, pk_un i3]) (sOff.rf.set (by omega) (by omega)) (tm_min hs h0 b3) (fun _ => ⟨fun q => absurd q.2 (by decide), fun q => absurd q (by decide)⟩)
        · refine go_ok okF1 (C := cdX11_readsTerm) (by rfl) [81] 60 (by exact Nat.le_of_ble_eq_true rfl) ?_
          simp (maxSteps := 2000000) only [go, stp, inS, ↓reduceIte, Bool.false_eq_true, Nat.reduceLT, Nat.reduceEqDiff, Nat.reduceAdd, ldI, ldL, ldA, st1, st2, okS, List.getElem?_cons_zero, List.getElem?_cons_succ, List.length_cons, List.length_nil, List.set_cons_zero, List.set_cons_succ, callP, callF, popN, ct, Value.category, cI, List.getD_cons_zero, List.getD_cons_succ, and_self, and_true, true_and, Nat.zero_le, Nat.reduceLeDiff, Nat.add_zero, Nat.zero_add, List.nil_append, List.cons_append, Option.toList_some, Option.toList_none, List.append_nil, hset_ss, true_or, or_true, eq_self, beq_self_eq_true, List.drop_succ_cons, List.drop_zero, swT, swL, hset_ap, not_true_eq_false, not_false_eq_true, true_implies, false_implies, implies_true, Int32.reduceLE, Int32.reduceLT, Int32.reduceAdd, Int32.reduceSub, Int32.reduceOfInt, Int32.reduceToNatClampNeg, i10, i01, Nat.add_left_cancel_iff, Nat.left_eq_add, Nat.add_eq_left, cdX11_readsTerm, F1, m.o, in97, eq_false b1, b2, b3]
          exact tail p 0 _ _ _ (upd c 20 0) (Or.inl ⟨rfl, rfl⟩) (by omega) (by omega) m1 hp f1 hO1 hs (fun _ => ⟨fun q => b3 q.1, fun _ => ⟨b1, b2⟩⟩)
  · obtain rfl : p = len := by omega
    rw [hr_end]
    refine go_ok okF1 (C := cdX11_readsTerm) (by rfl) [81] 60 (by exact Nat.le_of_ble_eq_true rfl) ?_
    simp (maxSteps := 2000000) only [go, stp, inS, ↓reduceIte, Bool.false_eq_true, Nat.reduceLT, Nat.reduceEqDiff, Nat.reduceAdd, ldI, ldL, ldA, st1, st2, okS, List.getElem?_cons_zero, List.getElem?_cons_succ, List.length_cons, List.length_nil, List.set_cons_zero, List.set_cons_succ, callP, callF, popN, ct, Value.category, cI, List.getD_cons_zero, List.getD_cons_succ, and_self, and_true, true_and, Nat.zero_le, Nat.reduceLeDiff, Nat.add_zero, Nat.zero_add, List.nil_append, List.cons_append, Option.toList_some, Option.toList_none, List.append_nil, hset_ss, true_or, or_true, eq_self, beq_self_eq_true, List.drop_succ_cons, List.drop_zero, swT, swL, hset_ap, not_true_eq_false, not_false_eq_true, true_implies, false_implies, implies_true, Int32.reduceLE, Int32.reduceLT, Int32.reduceAdd, Int32.reduceSub, Int32.reduceOfInt, Int32.reduceToNatClampNeg, i10, i01, Nat.add_left_cancel_iff, Nat.left_eq_add, Nat.add_eq_left, cdX11_readsTerm, F1, m.o, in97, eq_false (show ¬ ((97 : Int32) ≤ -1 ∧ (-1 : Int32) ≤ 99) by decide), (show ¬ (-1 : Int32) = 110 by decide), (show ¬ (-1 : Int32) = 45 by decide)]
    exact tail p 0 _ _ _ (upd c 20 0) (Or.inl ⟨rfl, rfl⟩) (by omega) (by omega) m1 hp f1 hO1 hs (fun q => absurd q (by omega))
end MR
