
/-! GrownAsks: wrong -/
theorem fstR_of {p : Nat → Bool} : ∀ {m i k : Nat}, i ≤ k → k < i + m → p k = true → (∀ j, i ≤ j → j < k → p j = false) → fstR p m i = some k
  | 0, i, k, h1, h2, _, _ => absurd h2 (by omega)
  | m + 1, i, k, h1, h2, h3, h4 => by
    rw [fstR_s]
    by_cases e : i = k
    · subst e; rw [if_pos h3]
    · rw [if_neg (by rw [h4 i (by omega) (by omega)]; decide)]
      exact fstR_of (by omega) (by omega) h3 (fun j a b => h4 j (by omega) b)
theorem fstR_lo {p : Nat → Bool} : ∀ {m i k : Nat}, fstR p m i = some k → ∀ j, i ≤ j → j < k → p j = false
  | 0, i, k, h, _, _, _ => by cases h
  | m + 1, i, k, h, j, h1, h2 => by
    rw [fstR_s] at h
    by_cases hp : p i = true
    · rw [if_pos hp] at h; cases h; omega
    · rw [if_neg hp] at h
      by_cases e : j = i
      · subst e; exact Bool.eq_false_iff.mpr hp
      · exact fstR_lo h j (by omega) h2
theorem fstR_no {p : Nat → Bool} : ∀ {m i : Nat}, fstR p m i = none ↔ ∀ j, i ≤ j → j < i + m → p j = false
  | 0, i => ⟨fun _ j a b => by omega, fun _ => rfl⟩
  | m + 1, i => by
    rw [fstR_s]
    by_cases hp : p i = true
    · rw [if_pos hp]; exact ⟨fun q => (by cases q), fun q => (by rw [q i (by omega) (by omega)] at hp; cases hp)⟩
    · rw [if_neg hp, fstR_no]
      exact ⟨fun q j a b => if e : j = i then (by subst e; exact Bool.eq_false_iff.mpr hp) else q j (by omega) (by omega), fun q j a b => q j (by omega) (by omega)⟩
noncomputable def stB (M : MS) (s : pT) (r k : Nat) : Bool := !(evS s M.f (bt (M.ru &&& M.fa)) r k == evS s M.f (bt 0) r k)
noncomputable def owB (M : MS) (s : pT) (k r : Nat) : Bool := stB M s r k && !(anyB (sz (sG s) s.1 k - 1) (fun j => stB M s r (k + 1 + j)))
section C11
variable {n : Nat} {h : aH} {Q : aQ} {M : MS}
set_option maxRecDepth 100000 in
set_option maxHeartbeats 400000 in
theorem K_strays {s : pT} {k : Nat} (c : CInv h M) (m : MOk M) (w1 : wkd h 22 M s (M.ru &&& M.fa)) (w2 : wkd h 25 M s 0) (hk : k < s.1) (h40 : s.1 ≤ 40) (hq : Q (some (.int (mB M.nr (fun r => stB M s r k)))) n h) : Ok 140 [.ref 0, .int (nI k)] n h Q := by
  have hnr := m.nr
  obtain ⟨al, d0, fi0, W0, hEn⟩ := c.en
  obtain ⟨al', d0', fi0', W0', hEm⟩ := c.me
  refine ok_of kMX10_straysAt kCX10_straysAt (Nat.le_of_ble_eq_true rfl) (fun z => ?_)
  change A z _ _ 0 0 _ 0 [some (.ref 0), some (.int (nI k)), none, none, none] [] _
  refine go_ok okF1 (C := cdX10_straysAt) (by rfl) [] 40 (by exact Nat.le_of_ble_eq_true rfl) ?_
  simp (maxSteps := 2000000) only [go, stp, inS, ↓reduceIte, Bool.false_eq_true, Nat.reduceLT, Nat.reduceEqDiff, Nat.reduceAdd, ldI, ldL, ldA, st1, st2, okS, List.getElem?_cons_zero, List.getElem?_cons_succ, List.length_cons, List.length_nil, List.set_cons_zero, List.set_cons_succ, callP, callF, popN, ct, Value.category, cI, List.getD_cons_zero, List.getD_cons_succ, and_self, and_true, true_and, Nat.zero_le, Nat.reduceLeDiff, Nat.add_zero, Nat.zero_add, List.nil_append, List.cons_append, Option.toList_some, Option.toList_none, List.append_nil, hset_ss, true_or, or_true, eq_self, beq_self_eq_true, List.drop_succ_cons, List.drop_zero, swT, swL, hset_ap, not_true_eq_false, not_false_eq_true, true_implies, false_implies, implies_true, Int32.reduceLE, Int32.reduceLT, Int32.reduceAdd, Int32.reduceSub, Int32.reduceOfInt, Int32.reduceToNatClampNeg, i10, i01, Nat.add_left_cancel_iff, Nat.left_eq_add, Nat.add_eq_left, cdX10_straysAt, F1, c.o, (show h 22 = _ from hEn.1)]
  refine w1.v hk h40 ?_
  refine go_ok okF1 (C := cdX10_straysAt) (by rfl) [] 40 (by exact Nat.le_of_ble_eq_true rfl) ?_
  simp (maxSteps := 2000000) only [go, stp, inS, ↓reduceIte, Bool.false_eq_true, Nat.reduceLT, Nat.reduceEqDiff, Nat.reduceAdd, ldI, ldL, ldA, st1, st2, okS, List.getElem?_cons_zero, List.getElem?_cons_succ, List.length_cons, List.length_nil, List.set_cons_zero, List.set_cons_succ, callP, callF, popN, ct, Value.category, cI, List.getD_cons_zero, List.getD_cons_succ, and_self, and_true, true_and, Nat.zero_le, Nat.reduceLeDiff, Nat.add_zero, Nat.zero_add, List.nil_append, List.cons_append, Option.toList_some, Option.toList_none, List.append_nil, hset_ss, true_or, or_true, eq_self, beq_self_eq_true, List.drop_succ_cons, List.drop_zero, swT, swL, hset_ap, not_true_eq_false, not_false_eq_true, true_implies, false_implies, implies_true, Int32.reduceLE, Int32.reduceLT, Int32.reduceAdd, Int32.reduceSub, Int32.reduceOfInt, Int32.reduceToNatClampNeg, i10, i01, Nat.add_left_cancel_iff, Nat.left_eq_add, Nat.add_eq_left, cdX10_straysAt, F1, c.o, (show h 25 = _ from hEm.1)]
  refine w2.v hk h40 ?_
  refine go_ok okF1 (C := cdX10_straysAt) (by rfl) [] 40 (by exact Nat.le_of_ble_eq_true rfl) ?_
  simp (maxSteps := 2000000) only [go, stp, inS, ↓reduceIte, Bool.false_eq_true, Nat.reduceLT, Nat.reduceEqDiff, Nat.reduceAdd, ldI, ldL, ldA, st1, st2, okS, List.getElem?_cons_zero, List.getElem?_cons_succ, List.length_cons, List.length_nil, List.set_cons_zero, List.set_cons_succ, callP, callF, popN, ct, Value.category, cI, List.getD_cons_zero, List.getD_cons_succ, and_self, and_true, true_and, Nat.zero_le, Nat.reduceLeDiff, Nat.add_zero, Nat.zero_add, List.nil_append, List.cons_append, Option.toList_some, Option.toList_none, List.append_nil, hset_ss, true_or, or_true, eq_self, beq_self_eq_true, List.drop_succ_cons, List.drop_zero, swT, swL, hset_ap, not_true_eq_false, not_false_eq_true, true_implies, false_implies, implies_true, Int32.reduceLE, Int32.reduceLT, Int32.reduceAdd, Int32.reduceSub, Int32.reduceOfInt, Int32.reduceToNatClampNeg, i10, i01, Nat.add_left_cancel_iff, Nat.left_eq_add, Nat.add_eq_left, cdX10_straysAt, F1]
  have : mB M.nr (fun r => stB M s r k) = (((enc M.nr (fun r => evS s M.f (bt (M.ru &&& M.fa)) r k) ^^^ enc M.nr (fun r => evS s M.f (bt 0) r k)) &&& 65535) ||| (((enc M.nr (fun r => evS s M.f (bt (M.ru &&& M.fa)) r k) ^^^ enc M.nr (fun r => evS s M.f (bt 0) r k)).toUInt32 >>> ((16 : Int32).toUInt32 &&& Int32.toUInt32 31)).toInt32)) := b_ext fun i hi => by
    rw [b_mB _ _ (by omega) i hi, b_or, b_and, b_65535, b_u16, b_xor, b_xor]
    unfold stB
    by_cases h16 : i < 16
    · rw [e_y _ _ h16, e_y _ _ h16, e_n _ _ h16, e_n _ _ h16]
      have l1 : evS s M.f (bt (M.ru &&& M.fa)) i k ≤ 2 := ev_le _ _
      have l2 : evS s M.f (bt 0) i k ≤ 2 := ev_le _ _
      generalize evS s M.f (bt (M.ru &&& M.fa)) i k = a at l1
      generalize evS s M.f (bt 0) i k = b at l2
      by_cases hr : i < M.nr
      · rcases (by omega : a = 0 ∨ a = 1 ∨ a = 2) with rfl | rfl | rfl <;> rcases (by omega : b = 0 ∨ b = 1 ∨ b = 2) with rfl | rfl | rfl <;> simp [hr, h16]
      · simp [hr]
    · rw [b_big (x := enc M.nr (fun r => evS s M.f (bt (M.ru &&& M.fa)) r k)) (i := 16 + i) (by omega), b_big (x := enc M.nr (fun r => evS s M.f (bt 0) r k)) (i := 16 + i) (by omega)]
      simp [h16, show ¬ i < M.nr by omega]
  rw [← this]
  exact hq
set_option maxRecDepth 100000 in
set_option maxHeartbeats 400000 in
theorem K_own {x : Nat} {s : pT} {k : Nat} (c : CInv h M) (m : MOk M) (hT : tI h x s) (w1 : wkd h 22 M s (M.ru &&& M.fa)) (w2 : wkd h 25 M s 0) (hk : k < s.1) (hq : Q (some (.int (mB M.nr (owB M s k)))) n h) : Ok 141 [.ref 0, .ref x, .int (nI k)] n h Q := by
  have hnr := m.nr
  have hac := hT.ac
  have hT2 := hT
  obtain ⟨B, len, a1, a2, a3, a4, a5, a6⟩ := hT2
  obtain ⟨S, ⟨B3, ln3, ot3, om3, mi3, sk3, hTx3⟩, hkk⟩ := s_txOk a1 a2 a3 a4
  have hsz := sz_wf hkk.2.1 _ k (Nat.le_refl _) hk
  refine ok_of kMX10_ownStrays kCX10_ownStrays (Nat.le_of_ble_eq_true rfl) (fun z => ?_)
  change A z _ _ 0 0 _ 0 [some (.ref 0), some (.ref x), some (.int (nI k)), none, none, none] [] _
  refine go_ok okF1 (C := cdX10_ownStrays) (by rfl) [] 40 (by exact Nat.le_of_ble_eq_true rfl) ?_
  simp (maxSteps := 2000000) only [go, stp, inS, ↓reduceIte, Bool.false_eq_true, Nat.reduceLT, Nat.reduceEqDiff, Nat.reduceAdd, ldI, ldL, ldA, st1, st2, okS, List.getElem?_cons_zero, List.getElem?_cons_succ, List.length_cons, List.length_nil, List.set_cons_zero, List.set_cons_succ, callP, callF, popN, ct, Value.category, cI, List.getD_cons_zero, List.getD_cons_succ, and_self, and_true, true_and, Nat.zero_le, Nat.reduceLeDiff, Nat.add_zero, Nat.zero_add, List.nil_append, List.cons_append, Option.toList_some, Option.toList_none, List.append_nil, hset_ss, true_or, or_true, eq_self, beq_self_eq_true, List.drop_succ_cons, List.drop_zero, swT, swL, hset_ap, not_true_eq_false, not_false_eq_true, true_implies, false_implies, implies_true, Int32.reduceLE, Int32.reduceLT, Int32.reduceAdd, Int32.reduceSub, Int32.reduceOfInt, Int32.reduceToNatClampNeg, i10, i01, Nat.add_left_cancel_iff, Nat.left_eq_add, Nat.add_eq_left, cdX10_ownStrays, F1, c.o]
  refine K_strays c m w1 w2 hk hac.2 ?_
  refine go_ok okF1 (C := cdX10_ownStrays) (by rfl) [20] 40 (by exact Nat.le_of_ble_eq_true rfl) ?_
  simp (maxSteps := 2000000) only [go, stp, inS, ↓reduceIte, Bool.false_eq_true, Nat.reduceLT, Nat.reduceEqDiff, Nat.reduceAdd, ldI, ldL, ldA, st1, st2, okS, List.getElem?_cons_zero, List.getElem?_cons_succ, List.length_cons, List.length_nil, List.set_cons_zero, List.set_cons_succ, callP, callF, popN, ct, Value.category, cI, List.getD_cons_zero, List.getD_cons_succ, and_self, and_true, true_and, Nat.zero_le, Nat.reduceLeDiff, Nat.add_zero, Nat.zero_add, List.nil_append, List.cons_append, Option.toList_some, Option.toList_none, List.append_nil, hset_ss, true_or, or_true, eq_self, beq_self_eq_true, List.drop_succ_cons, List.drop_zero, swT, swL, hset_ap, not_true_eq_false, not_false_eq_true, true_implies, false_implies, implies_true, Int32.reduceLE, Int32.reduceLT, Int32.reduceAdd, Int32.reduceSub, Int32.reduceOfInt, Int32.reduceToNatClampNeg, i10, i01, Nat.add_left_cancel_iff, Nat.left_eq_add, Nat.add_eq_left, cdX10_ownStrays, F1, hTx3.1]
  refine X_sizeAt hTx3 ?_
  rw [gK hk hac.2, hkk.2.2.1 _ hk]
  refine go_ok okF1 (C := cdX10_ownStrays) (by rfl) [20] 40 (by exact Nat.le_of_ble_eq_true rfl) ?_
  simp (maxSteps := 2000000) only [go, stp, inS, ↓reduceIte, Bool.false_eq_true, Nat.reduceLT, Nat.reduceEqDiff, Nat.reduceAdd, ldI, ldL, ldA, st1, st2, okS, List.getElem?_cons_zero, List.getElem?_cons_succ, List.length_cons, List.length_nil, List.set_cons_zero, List.set_cons_succ, callP, callF, popN, ct, Value.category, cI, List.getD_cons_zero, List.getD_cons_succ, and_self, and_true, true_and, Nat.zero_le, Nat.reduceLeDiff, Nat.add_zero, Nat.zero_add, List.nil_append, List.cons_append, Option.toList_some, Option.toList_none, List.append_nil, hset_ss, true_or, or_true, eq_self, beq_self_eq_true, List.drop_succ_cons, List.drop_zero, swT, swL, hset_ap, not_true_eq_false, not_false_eq_true, true_implies, false_implies, implies_true, Int32.reduceLE, Int32.reduceLT, Int32.reduceAdd, Int32.reduceSub, Int32.reduceOfInt, Int32.reduceToNatClampNeg, i10, i01, Nat.add_left_cancel_iff, Nat.left_eq_add, Nat.add_eq_left, cdX10_ownStrays, F1]
  rw [nI_add, nI_1]
  have loop : ∀ q i, i + q = sz (sG s) s.1 k - 1 → A z 141 n 0 0 h 20 [some (.ref 0), some (.ref x), some (.int (nI k)), some (.int (mB M.nr (fun r => stB M s r k && !(anyB i (fun j => stB M s r (k + 1 + j)))))), some (.int (nI (k + sz (sG s) s.1 k))), some (.int (nI (k + 1 + i)))] [] Q := by
    intro q
    induction q with
    | zero =>
      intro i hi
      have e : k + 1 + i = k + sz (sG s) s.1 k := by omega
      rw [e]
      refine go_ok okF1 (C := cdX10_ownStrays) (by rfl) [] 40 (by exact Nat.le_of_ble_eq_true rfl) ?_
      simp (maxSteps := 2000000) only [go, stp, inS, ↓reduceIte, Bool.false_eq_true, Nat.reduceLT, Nat.reduceEqDiff, Nat.reduceAdd, ldI, ldL, ldA, st1, st2, okS, List.getElem?_cons_zero, List.getElem?_cons_succ, List.length_cons, List.length_nil, List.set_cons_zero, List.set_cons_succ, callP, callF, popN, ct, Value.category, cI, List.getD_cons_zero, List.getD_cons_succ, and_self, and_true, true_and, Nat.zero_le, Nat.reduceLeDiff, Nat.add_zero, Nat.zero_add, List.nil_append, List.cons_append, Option.toList_some, Option.toList_none, List.append_nil, hset_ss, true_or, or_true, eq_self, beq_self_eq_true, List.drop_succ_cons, List.drop_zero, swT, swL, hset_ap, not_true_eq_false, not_false_eq_true, true_implies, false_implies, implies_true, Int32.reduceLE, Int32.reduceLT, Int32.reduceAdd, Int32.reduceSub, Int32.reduceOfInt, Int32.reduceToNatClampNeg, i10, i01, Nat.add_left_cancel_iff, Nat.left_eq_add, Nat.add_eq_left, cdX10_ownStrays, F1, (show nI (k + sz (sG s) s.1 k) ≤ nI (k + sz (sG s) s.1 k) from i_nlt.mp (by rw [i_lt (by omega) (by omega)]; omega))]
      unfold owB at hq
      rw [show i = sz (sG s) s.1 k - 1 by omega]
      exact hq
    | succ q ih =>
      intro i hi
      have e : ¬ nI (k + sz (sG s) s.1 k) ≤ nI (k + 1 + i) := by rw [i_le (by omega) (by omega)]; omega
      refine go_ok okF1 (C := cdX10_ownStrays) (by rfl) [20] 40 (by exact Nat.le_of_ble_eq_true rfl) ?_
      simp (maxSteps := 2000000) only [go, stp, inS, ↓reduceIte, Bool.false_eq_true, Nat.reduceLT, Nat.reduceEqDiff, Nat.reduceAdd, ldI, ldL, ldA, st1, st2, okS, List.getElem?_cons_zero, List.getElem?_cons_succ, List.length_cons, List.length_nil, List.set_cons_zero, List.set_cons_succ, callP, callF, popN, ct, Value.category, cI, List.getD_cons_zero, List.getD_cons_succ, and_self, and_true, true_and, Nat.zero_le, Nat.reduceLeDiff, Nat.add_zero, Nat.zero_add, List.nil_append, List.cons_append, Option.toList_some, Option.toList_none, List.append_nil, hset_ss, true_or, or_true, eq_self, beq_self_eq_true, List.drop_succ_cons, List.drop_zero, swT, swL, hset_ap, not_true_eq_false, not_false_eq_true, true_implies, false_implies, implies_true, Int32.reduceLE, Int32.reduceLT, Int32.reduceAdd, Int32.reduceSub, Int32.reduceOfInt, Int32.reduceToNatClampNeg, i10, i01, Nat.add_left_cancel_iff, Nat.left_eq_add, Nat.add_eq_left, cdX10_ownStrays, F1, e, c.o]
      refine K_strays c m w1 w2 (by omega) hac.2 ?_
      refine go_ok okF1 (C := cdX10_ownStrays) (by rfl) [20] 40 (by exact Nat.le_of_ble_eq_true rfl) ?_
      simp (maxSteps := 2000000) only [go, stp, inS, ↓reduceIte, Bool.false_eq_true, Nat.reduceLT, Nat.reduceEqDiff, Nat.reduceAdd, ldI, ldL, ldA, st1, st2, okS, List.getElem?_cons_zero, List.getElem?_cons_succ, List.length_cons, List.length_nil, List.set_cons_zero, List.set_cons_succ, callP, callF, popN, ct, Value.category, cI, List.getD_cons_zero, List.getD_cons_succ, and_self, and_true, true_and, Nat.zero_le, Nat.reduceLeDiff, Nat.add_zero, Nat.zero_add, List.nil_append, List.cons_append, Option.toList_some, Option.toList_none, List.append_nil, hset_ss, true_or, or_true, eq_self, beq_self_eq_true, List.drop_succ_cons, List.drop_zero, swT, swL, hset_ap, not_true_eq_false, not_false_eq_true, true_implies, false_implies, implies_true, Int32.reduceLE, Int32.reduceLT, Int32.reduceAdd, Int32.reduceSub, Int32.reduceOfInt, Int32.reduceToNatClampNeg, i10, i01, Nat.add_left_cancel_iff, Nat.left_eq_add, Nat.add_eq_left, cdX10_ownStrays, F1, nI_1]
      have : (mB M.nr (fun r => stB M s r k && !(anyB i (fun j => stB M s r (k + 1 + j)))) &&& (mB M.nr (fun r => stB M s r (k + 1 + i)) ^^^ (-1))) = mB M.nr (fun r => stB M s r k && !(anyB (i + 1) (fun j => stB M s r (k + 1 + j)))) := b_ext fun t ht => by
        rw [b_and, b_not _ ht, b_mB _ _ (by omega) t ht, b_mB _ _ (by omega) t ht, b_mB _ _ (by omega) t ht, anyB]
        by_cases hr : t < M.nr
        · simp only [hr, decide_true, Bool.true_and]
          cases stB M s t k <;> cases anyB i (fun j => stB M s t (k + 1 + j)) <;> cases stB M s t (k + 1 + i) <;> rfl
        · simp [hr]
      rw [this]
      exact ih (i + 1) (by omega)
  have := loop (sz (sG s) s.1 k - 1) 0 (by omega)
  simp only [anyB, Bool.not_false, Bool.and_true, Nat.add_zero] at this
  exact this
noncomputable def wrF (M : MS) (s : pT) (w : Int32) : Int32 := match fstR (fun k => anyB M.nr (owB M s k)) s.1 0 with
  | some k => if w = 0 then nI k else (match fstR (owB M s k) M.nr 0 with
    | some r => nI r
    | none => -1)
  | none => -1
noncomputable def stWrong (M : MS) (x w : Int32) : Int32 := if (0 ≤ x ∧ x < 2) ∧ (0 ≤ w ∧ w ≤ 1) then (if pwB (M.s x.toNatClampNeg) = true then wrF M (M.s x.toNatClampNeg) w else -3) else -2
theorem ntz_first {g : Nat → Bool} {nr : Nat} (hn : nr ≤ 8) (h : anyB nr g = true) : ∃ r, fstR g nr 0 = some r ∧ ntzE (mB nr g) = nI r := by
  cases hf : fstR g nr 0 with
  | none =>
    obtain ⟨i, hi, hg⟩ := anyB_iff.mp h
    rw [fstR_no.mp hf i (by omega) (by omega)] at hg; cases hg
  | some r =>
    refine ⟨r, rfl, ?_⟩
    obtain ⟨q1, q2, q3⟩ := fstR_in hf
    have q4 := fstR_lo hf
    obtain ⟨j, hj, e⟩ := b_small (x := mB nr g) (m := 8) (by omega) (fun i hi => by
      rcases Nat.lt_or_ge i 32 with h32 | h32
      · rw [b_mB _ _ (by omega) i h32]; simp [show ¬ i < nr by omega]
      · exact b_big h32)
    have := ntz8 j hj
    rw [← e, fstR_of (k := r) (by omega) (by omega) (by rw [b_mB _ _ (by omega) r (by omega), q3]; simp; omega) (fun i _ hi => by rw [b_mB _ _ (by omega) i (by omega), q4 i (by omega) hi]; simp)] at this
    exact this
theorem mB0 {g : Nat → Bool} {nr : Nat} (hn : nr ≤ 32) : mB nr g = 0 ↔ anyB nr g = false := by
  rw [b_zero]
  constructor
  · intro q
    rw [Bool.eq_false_iff]
    intro h
    obtain ⟨i, hi, hg⟩ := anyB_iff.mp h
    have := q i (by omega)
    rw [b_mB _ _ hn i (by omega), hg] at this
    simp [hi] at this
  · intro q i hi
    rw [b_mB _ _ hn i hi]
    by_cases hr : i < nr
    · cases hg : g i with
      | false => simp
      | true => rw [anyB_iff.mpr ⟨i, hr, hg⟩] at q; cases q
    · simp [hr]
set_option maxRecDepth 100000 in
set_option maxHeartbeats 400000 in
theorem K_wrong {x w : Int32} (c : CInv h M) (m : MOk M) (hq : ∀ h', CInv h' M → sOff h h' 0 52 → Q (some (.int (stWrong M x w))) n h') : Ok 105 [.ref 0, .int x, .int w] n h Q := by
  unfold stWrong at hq
  have hnr := m.nr
  refine ok_of kMX10_wrong kCX10_wrong (Nat.le_of_ble_eq_true rfl) (fun z => ?_)
  change A z _ _ 0 0 _ 0 [some (.ref 0), some (.int x), some (.int w), none, none, none] [] _
  refine go_ok okF1 (C := cdX10_wrong) (by rfl) [] 40 (by exact Nat.le_of_ble_eq_true rfl) ?_
  simp (maxSteps := 2000000) only [go, stp, inS, ↓reduceIte, Bool.false_eq_true, Nat.reduceLT, Nat.reduceEqDiff, Nat.reduceAdd, ldI, ldL, ldA, st1, st2, okS, List.getElem?_cons_zero, List.getElem?_cons_succ, List.length_cons, List.length_nil, List.set_cons_zero, List.set_cons_succ, callP, callF, popN, ct, Value.category, cI, List.getD_cons_zero, List.getD_cons_succ, and_self, and_true, true_and, Nat.zero_le, Nat.reduceLeDiff, Nat.add_zero, Nat.zero_add, List.nil_append, List.cons_append, Option.toList_some, Option.toList_none, List.append_nil, hset_ss, true_or, or_true, eq_self, beq_self_eq_true, List.drop_succ_cons, List.drop_zero, swT, swL, hset_ap, not_true_eq_false, not_false_eq_true, true_implies, false_implies, implies_true, Int32.reduceLE, Int32.reduceLT, Int32.reduceAdd, Int32.reduceSub, Int32.reduceOfInt, Int32.reduceToNatClampNeg, i10, i01, Nat.add_left_cancel_iff, Nat.left_eq_add, Nat.add_eq_left, cdX10_wrong, F1, c.o]
  refine K_text c (fun t ht ex => ?_) (fun ex => ?_)
  · subst ex
    rw [i_cl (show t < 2147483648 by omega)] at hq
    obtain ⟨S, hx, hz⟩ := c.tx ht
    have bad : ¬ (0 ≤ w ∧ w ≤ 1) → A z 105 n 0 0 h 19 [some (.ref 0), some (.int (nI t)), some (.int w), some (.ref (4 + 6 * t)), none, none] [] Q := fun hc => by
      refine go_ok okF1 (C := cdX10_wrong) (by rfl) [] 40 (by exact Nat.le_of_ble_eq_true rfl) ?_
      simp (maxSteps := 2000000) only [go, stp, inS, ↓reduceIte, Bool.false_eq_true, Nat.reduceLT, Nat.reduceEqDiff, Nat.reduceAdd, ldI, ldL, ldA, st1, st2, okS, List.getElem?_cons_zero, List.getElem?_cons_succ, List.length_cons, List.length_nil, List.set_cons_zero, List.set_cons_succ, callP, callF, popN, ct, Value.category, cI, List.getD_cons_zero, List.getD_cons_succ, and_self, and_true, true_and, Nat.zero_le, Nat.reduceLeDiff, Nat.add_zero, Nat.zero_add, List.nil_append, List.cons_append, Option.toList_some, Option.toList_none, List.append_nil, hset_ss, true_or, or_true, eq_self, beq_self_eq_true, List.drop_succ_cons, List.drop_zero, swT, swL, hset_ap, not_true_eq_false, not_false_eq_true, true_implies, false_implies, implies_true, Int32.reduceLE, Int32.reduceLT, Int32.reduceAdd, Int32.reduceSub, Int32.reduceOfInt, Int32.reduceToNatClampNeg, i10, i01, Nat.add_left_cancel_iff, Nat.left_eq_add, Nat.add_eq_left, cdX10_wrong, F1]
      rw [if_neg (fun q => hc q.2)] at hq
      exact hq h c sOff.rf
    refine go_ok okF1 (C := cdX10_wrong) (by rfl) [19, 22] 40 (by exact Nat.le_of_ble_eq_true rfl) ?_
    simp (maxSteps := 2000000) only [go, stp, inS, ↓reduceIte, Bool.false_eq_true, Nat.reduceLT, Nat.reduceEqDiff, Nat.reduceAdd, ldI, ldL, ldA, st1, st2, okS, List.getElem?_cons_zero, List.getElem?_cons_succ, List.length_cons, List.length_nil, List.set_cons_zero, List.set_cons_succ, callP, callF, popN, ct, Value.category, cI, List.getD_cons_zero, List.getD_cons_succ, and_self, and_true, true_and, Nat.zero_le, Nat.reduceLeDiff, Nat.add_zero, Nat.zero_add, List.nil_append, List.cons_append, Option.toList_some, Option.toList_none, List.append_nil, hset_ss, true_or, or_true, eq_self, beq_self_eq_true, List.drop_succ_cons, List.drop_zero, swT, swL, hset_ap, not_true_eq_false, not_false_eq_true, true_implies, false_implies, implies_true, Int32.reduceLE, Int32.reduceLT, Int32.reduceAdd, Int32.reduceSub, Int32.reduceOfInt, Int32.reduceToNatClampNeg, i10, i01, Nat.add_left_cancel_iff, Nat.left_eq_add, Nat.add_eq_left, cdX10_wrong, F1, hx.1]
    refine ⟨fun c1 => bad (fun q => absurd q.1 (i_nle.mpr c1)), fun c1 => ⟨fun c2 => ?_, fun c2 => bad (fun q => c2 q.2)⟩⟩
    rw [if_pos ⟨t2 ht, i_nlt.mp c1, c2⟩] at hq
    refine go_ok okF1 (C := cdX10_wrong) (by rfl) [] 40 (by exact Nat.le_of_ble_eq_true rfl) ?_
    simp (maxSteps := 2000000) only [go, stp, inS, ↓reduceIte, Bool.false_eq_true, Nat.reduceLT, Nat.reduceEqDiff, Nat.reduceAdd, ldI, ldL, ldA, st1, st2, okS, List.getElem?_cons_zero, List.getElem?_cons_succ, List.length_cons, List.length_nil, List.set_cons_zero, List.set_cons_succ, callP, callF, popN, ct, Value.category, cI, List.getD_cons_zero, List.getD_cons_succ, and_self, and_true, true_and, Nat.zero_le, Nat.reduceLeDiff, Nat.add_zero, Nat.zero_add, List.nil_append, List.cons_append, Option.toList_some, Option.toList_none, List.append_nil, hset_ss, true_or, or_true, eq_self, beq_self_eq_true, List.drop_succ_cons, List.drop_zero, swT, swL, hset_ap, not_true_eq_false, not_false_eq_true, true_implies, false_implies, implies_true, Int32.reduceLE, Int32.reduceLT, Int32.reduceAdd, Int32.reduceSub, Int32.reduceOfInt, Int32.reduceToNatClampNeg, i10, i01, Nat.add_left_cancel_iff, Nat.left_eq_add, Nat.add_eq_left, cdX10_wrong, F1, hx.1]
    refine X_whole' (c.tx ht) (m.pi t ht) (m.ln t ht) (fun hw => ?_) (fun hw => ?_)
    · refine go_ok okF1 (C := cdX10_wrong) (by rfl) [] 40 (by exact Nat.le_of_ble_eq_true rfl) ?_
      simp (maxSteps := 2000000) only [go, stp, inS, ↓reduceIte, Bool.false_eq_true, Nat.reduceLT, Nat.reduceEqDiff, Nat.reduceAdd, ldI, ldL, ldA, st1, st2, okS, List.getElem?_cons_zero, List.getElem?_cons_succ, List.length_cons, List.length_nil, List.set_cons_zero, List.set_cons_succ, callP, callF, popN, ct, Value.category, cI, List.getD_cons_zero, List.getD_cons_succ, and_self, and_true, true_and, Nat.zero_le, Nat.reduceLeDiff, Nat.add_zero, Nat.zero_add, List.nil_append, List.cons_append, Option.toList_some, Option.toList_none, List.append_nil, hset_ss, true_or, or_true, eq_self, beq_self_eq_true, List.drop_succ_cons, List.drop_zero, swT, swL, hset_ap, not_true_eq_false, not_false_eq_true, true_implies, false_implies, implies_true, Int32.reduceLE, Int32.reduceLT, Int32.reduceAdd, Int32.reduceSub, Int32.reduceOfInt, Int32.reduceToNatClampNeg, i10, i01, Nat.add_left_cancel_iff, Nat.left_eq_add, Nat.add_eq_left, cdX10_wrong, F1]
      rw [if_neg hw] at hq; exact hq h c sOff.rf
    · rw [if_pos hw] at hq
      have hTi := c.ti m ht hw
      have hac := hTi.ac
      obtain ⟨al, d0, fi0, W0, hEn⟩ := c.en
      refine go_ok okF1 (C := cdX10_wrong) (by rfl) [] 40 (by exact Nat.le_of_ble_eq_true rfl) ?_
      simp (maxSteps := 2000000) only [go, stp, inS, ↓reduceIte, Bool.false_eq_true, Nat.reduceLT, Nat.reduceEqDiff, Nat.reduceAdd, ldI, ldL, ldA, st1, st2, okS, List.getElem?_cons_zero, List.getElem?_cons_succ, List.length_cons, List.length_nil, List.set_cons_zero, List.set_cons_succ, callP, callF, popN, ct, Value.category, cI, List.getD_cons_zero, List.getD_cons_succ, and_self, and_true, true_and, Nat.zero_le, Nat.reduceLeDiff, Nat.add_zero, Nat.zero_add, List.nil_append, List.cons_append, Option.toList_some, Option.toList_none, List.append_nil, hset_ss, true_or, or_true, eq_self, beq_self_eq_true, List.drop_succ_cons, List.drop_zero, swT, swL, hset_ap, not_true_eq_false, not_false_eq_true, true_implies, false_implies, implies_true, Int32.reduceLE, Int32.reduceLT, Int32.reduceAdd, Int32.reduceSub, Int32.reduceOfInt, Int32.reduceToNatClampNeg, i10, i01, Nat.add_left_cancel_iff, Nat.left_eq_add, Nat.add_eq_left, cdX10_wrong, F1, c.o, (show h 22 = _ from hEn.1)]
      refine K_workE (Or.inl rfl) c m hTi (fun h1 cI1 w1 hT1 hO1 => ?_)
      obtain ⟨al', d0', fi0', W0', hEm⟩ := cI1.me
      refine go_ok okF1 (C := cdX10_wrong) (by rfl) [61] 40 (by exact Nat.le_of_ble_eq_true rfl) ?_
      simp (maxSteps := 2000000) only [go, stp, inS, ↓reduceIte, Bool.false_eq_true, Nat.reduceLT, Nat.reduceEqDiff, Nat.reduceAdd, ldI, ldL, ldA, st1, st2, okS, List.getElem?_cons_zero, List.getElem?_cons_succ, List.length_cons, List.length_nil, List.set_cons_zero, List.set_cons_succ, callP, callF, popN, ct, Value.category, cI, List.getD_cons_zero, List.getD_cons_succ, and_self, and_true, true_and, Nat.zero_le, Nat.reduceLeDiff, Nat.add_zero, Nat.zero_add, List.nil_append, List.cons_append, Option.toList_some, Option.toList_none, List.append_nil, hset_ss, true_or, or_true, eq_self, beq_self_eq_true, List.drop_succ_cons, List.drop_zero, swT, swL, hset_ap, not_true_eq_false, not_false_eq_true, true_implies, false_implies, implies_true, Int32.reduceLE, Int32.reduceLT, Int32.reduceAdd, Int32.reduceSub, Int32.reduceOfInt, Int32.reduceToNatClampNeg, i10, i01, Nat.add_left_cancel_iff, Nat.left_eq_add, Nat.add_eq_left, cdX10_wrong, F1, cI1.o, (show h1 25 = _ from hEm.1)]
      refine K_workE (Or.inr rfl) cI1 m hT1 (fun h2 cI2 w2 hT2 hO2 => ?_)
      have w1' : wkd h2 22 M (M.s t) (M.ru &&& M.fa) := by
        obtain ⟨fi, W, a1, a2, a3⟩ := w1
        exact ⟨fi, W, a1.kept (fun q _ _ => hO2 q (by omega)), a2, a3⟩
      refine go_ok okF1 (C := cdX10_wrong) (by rfl) [61] 40 (by exact Nat.le_of_ble_eq_true rfl) ?_
      simp (maxSteps := 2000000) only [go, stp, inS, ↓reduceIte, Bool.false_eq_true, Nat.reduceLT, Nat.reduceEqDiff, Nat.reduceAdd, ldI, ldL, ldA, st1, st2, okS, List.getElem?_cons_zero, List.getElem?_cons_succ, List.length_cons, List.length_nil, List.set_cons_zero, List.set_cons_succ, callP, callF, popN, ct, Value.category, cI, List.getD_cons_zero, List.getD_cons_succ, and_self, and_true, true_and, Nat.zero_le, Nat.reduceLeDiff, Nat.add_zero, Nat.zero_add, List.nil_append, List.cons_append, Option.toList_some, Option.toList_none, List.append_nil, hset_ss, true_or, or_true, eq_self, beq_self_eq_true, List.drop_succ_cons, List.drop_zero, swT, swL, hset_ap, not_true_eq_false, not_false_eq_true, true_implies, false_implies, implies_true, Int32.reduceLE, Int32.reduceLT, Int32.reduceAdd, Int32.reduceSub, Int32.reduceOfInt, Int32.reduceToNatClampNeg, i10, i01, Nat.add_left_cancel_iff, Nat.left_eq_add, Nat.add_eq_left, cdX10_wrong, F1]
      have hO3 : sOff h h2 0 52 := (hO1.w (by omega) (by omega)).tr (hO2.w (by omega) (by omega))
      have fin := hq h2 cI2 hO3
      obtain ⟨B, G, S', L, R, len, ot, om, mi, sk, hx2⟩ := hT2.x0
      have loop : ∀ q i (g : Option Value), i + q = (M.s t).1 → fstR (fun k => anyB M.nr (owB M (M.s t) k)) (M.s t).1 0 = fstR (fun k => anyB M.nr (owB M (M.s t) k)) q i → A z 105 n 0 0 h2 61 [some (.ref 0), some (.int (nI t)), some (.int w), some (.ref (4 + 6 * t)), some (.int (nI i)), g] [] Q := by
        intro q
        induction q with
        | zero =>
          intro i g hi hf
          obtain rfl : i = (M.s t).1 := by omega
          refine go_ok okF1 (C := cdX10_wrong) (by rfl) [] 40 (by exact Nat.le_of_ble_eq_true rfl) ?_
          simp (maxSteps := 2000000) only [go, stp, inS, ↓reduceIte, Bool.false_eq_true, Nat.reduceLT, Nat.reduceEqDiff, Nat.reduceAdd, ldI, ldL, ldA, st1, st2, okS, List.getElem?_cons_zero, List.getElem?_cons_succ, List.length_cons, List.length_nil, List.set_cons_zero, List.set_cons_succ, callP, callF, popN, ct, Value.category, cI, List.getD_cons_zero, List.getD_cons_succ, and_self, and_true, true_and, Nat.zero_le, Nat.reduceLeDiff, Nat.add_zero, Nat.zero_add, List.nil_append, List.cons_append, Option.toList_some, Option.toList_none, List.append_nil, hset_ss, true_or, or_true, eq_self, beq_self_eq_true, List.drop_succ_cons, List.drop_zero, swT, swL, hset_ap, not_true_eq_false, not_false_eq_true, true_implies, false_implies, implies_true, Int32.reduceLE, Int32.reduceLT, Int32.reduceAdd, Int32.reduceSub, Int32.reduceOfInt, Int32.reduceToNatClampNeg, i10, i01, Nat.add_left_cancel_iff, Nat.left_eq_add, Nat.add_eq_left, cdX10_wrong, F1, hx2.1, (show nI (M.s t).1 ≤ nI (M.s t).1 from i_nlt.mp (by rw [i_lt (by omega) (by omega)]; omega))]
          unfold wrF at fin
          rw [hf] at fin
          exact fin
        | succ q ih =>
          intro i g hi hf
          have e : ¬ nI (M.s t).1 ≤ nI i := by rw [i_le (by omega) (by omega)]; omega
          refine go_ok okF1 (C := cdX10_wrong) (by rfl) [61] 40 (by exact Nat.le_of_ble_eq_true rfl) ?_
          simp (maxSteps := 2000000) only [go, stp, inS, ↓reduceIte, Bool.false_eq_true, Nat.reduceLT, Nat.reduceEqDiff, Nat.reduceAdd, ldI, ldL, ldA, st1, st2, okS, List.getElem?_cons_zero, List.getElem?_cons_succ, List.length_cons, List.length_nil, List.set_cons_zero, List.set_cons_succ, callP, callF, popN, ct, Value.category, cI, List.getD_cons_zero, List.getD_cons_succ, and_self, and_true, true_and, Nat.zero_le, Nat.reduceLeDiff, Nat.add_zero, Nat.zero_add, List.nil_append, List.cons_append, Option.toList_some, Option.toList_none, List.append_nil, hset_ss, true_or, or_true, eq_self, beq_self_eq_true, List.drop_succ_cons, List.drop_zero, swT, swL, hset_ap, not_true_eq_false, not_false_eq_true, true_implies, false_implies, implies_true, Int32.reduceLE, Int32.reduceLT, Int32.reduceAdd, Int32.reduceSub, Int32.reduceOfInt, Int32.reduceToNatClampNeg, i10, i01, Nat.add_left_cancel_iff, Nat.left_eq_add, Nat.add_eq_left, cdX10_wrong, F1, hx2.1, e, cI2.o]
          refine K_own cI2 m hT2 w1' w2 (by omega) ?_
          by_cases ha : anyB M.nr (owB M (M.s t) i) = true
          · have n0 : ¬ mB M.nr (owB M (M.s t) i) = 0 := fun q => by rw [mB0 (by omega)] at q; rw [q] at ha; cases ha
            unfold wrF at fin
            rw [fstR_s, if_pos ha] at hf
            rw [hf] at fin
            dsimp only at fin
            by_cases w0 : w = 0
            · subst w0
              refine go_ok okF1 (C := cdX10_wrong) (by rfl) [61] 40 (by exact Nat.le_of_ble_eq_true rfl) ?_
              simp (maxSteps := 2000000) only [go, stp, inS, ↓reduceIte, Bool.false_eq_true, Nat.reduceLT, Nat.reduceEqDiff, Nat.reduceAdd, ldI, ldL, ldA, st1, st2, okS, List.getElem?_cons_zero, List.getElem?_cons_succ, List.length_cons, List.length_nil, List.set_cons_zero, List.set_cons_succ, callP, callF, popN, ct, Value.category, cI, List.getD_cons_zero, List.getD_cons_succ, and_self, and_true, true_and, Nat.zero_le, Nat.reduceLeDiff, Nat.add_zero, Nat.zero_add, List.nil_append, List.cons_append, Option.toList_some, Option.toList_none, List.append_nil, hset_ss, true_or, or_true, eq_self, beq_self_eq_true, List.drop_succ_cons, List.drop_zero, swT, swL, hset_ap, not_true_eq_false, not_false_eq_true, true_implies, false_implies, implies_true, Int32.reduceLE, Int32.reduceLT, Int32.reduceAdd, Int32.reduceSub, Int32.reduceOfInt, Int32.reduceToNatClampNeg, i10, i01, Nat.add_left_cancel_iff, Nat.left_eq_add, Nat.add_eq_left, cdX10_wrong, F1, n0]
              exact fin
            · refine go_ok okF1 (C := cdX10_wrong) (by rfl) [61] 40 (by exact Nat.le_of_ble_eq_true rfl) ?_
              simp (maxSteps := 2000000) only [go, stp, inS, ↓reduceIte, Bool.false_eq_true, Nat.reduceLT, Nat.reduceEqDiff, Nat.reduceAdd, ldI, ldL, ldA, st1, st2, okS, List.getElem?_cons_zero, List.getElem?_cons_succ, List.length_cons, List.length_nil, List.set_cons_zero, List.set_cons_succ, callP, callF, popN, ct, Value.category, cI, List.getD_cons_zero, List.getD_cons_succ, and_self, and_true, true_and, Nat.zero_le, Nat.reduceLeDiff, Nat.add_zero, Nat.zero_add, List.nil_append, List.cons_append, Option.toList_some, Option.toList_none, List.append_nil, hset_ss, true_or, or_true, eq_self, beq_self_eq_true, List.drop_succ_cons, List.drop_zero, swT, swL, hset_ap, not_true_eq_false, not_false_eq_true, true_implies, false_implies, implies_true, Int32.reduceLE, Int32.reduceLT, Int32.reduceAdd, Int32.reduceSub, Int32.reduceOfInt, Int32.reduceToNatClampNeg, i10, i01, Nat.add_left_cancel_iff, Nat.left_eq_add, Nat.add_eq_left, cdX10_wrong, F1, n0, w0]
              refine T_ntz ?_
              obtain ⟨r, e1, e2⟩ := ntz_first (nr := M.nr) (by omega) ha
              rw [if_neg w0, e1] at fin
              dsimp only at fin
              rw [e2]
              refine go_ok okF1 (C := cdX10_wrong) (by rfl) [61] 40 (by exact Nat.le_of_ble_eq_true rfl) ?_
              simp (maxSteps := 2000000) only [go, stp, inS, ↓reduceIte, Bool.false_eq_true, Nat.reduceLT, Nat.reduceEqDiff, Nat.reduceAdd, ldI, ldL, ldA, st1, st2, okS, List.getElem?_cons_zero, List.getElem?_cons_succ, List.length_cons, List.length_nil, List.set_cons_zero, List.set_cons_succ, callP, callF, popN, ct, Value.category, cI, List.getD_cons_zero, List.getD_cons_succ, and_self, and_true, true_and, Nat.zero_le, Nat.reduceLeDiff, Nat.add_zero, Nat.zero_add, List.nil_append, List.cons_append, Option.toList_some, Option.toList_none, List.append_nil, hset_ss, true_or, or_true, eq_self, beq_self_eq_true, List.drop_succ_cons, List.drop_zero, swT, swL, hset_ap, not_true_eq_false, not_false_eq_true, true_implies, false_implies, implies_true, Int32.reduceLE, Int32.reduceLT, Int32.reduceAdd, Int32.reduceSub, Int32.reduceOfInt, Int32.reduceToNatClampNeg, i10, i01, Nat.add_left_cancel_iff, Nat.left_eq_add, Nat.add_eq_left, cdX10_wrong, F1]
              exact fin
          · have n0 : mB M.nr (owB M (M.s t) i) = 0 := (mB0 (by omega)).mpr (Bool.eq_false_iff.mpr ha)
            rw [fstR_s, if_neg ha] at hf
            rw [n0]
            refine go_ok okF1 (C := cdX10_wrong) (by rfl) [61] 40 (by exact Nat.le_of_ble_eq_true rfl) ?_
            simp (maxSteps := 2000000) only [go, stp, inS, ↓reduceIte, Bool.false_eq_true, Nat.reduceLT, Nat.reduceEqDiff, Nat.reduceAdd, ldI, ldL, ldA, st1, st2, okS, List.getElem?_cons_zero, List.getElem?_cons_succ, List.length_cons, List.length_nil, List.set_cons_zero, List.set_cons_succ, callP, callF, popN, ct, Value.category, cI, List.getD_cons_zero, List.getD_cons_succ, and_self, and_true, true_and, Nat.zero_le, Nat.reduceLeDiff, Nat.add_zero, Nat.zero_add, List.nil_append, List.cons_append, Option.toList_some, Option.toList_none, List.append_nil, hset_ss, true_or, or_true, eq_self, beq_self_eq_true, List.drop_succ_cons, List.drop_zero, swT, swL, hset_ap, not_true_eq_false, not_false_eq_true, true_implies, false_implies, implies_true, Int32.reduceLE, Int32.reduceLT, Int32.reduceAdd, Int32.reduceSub, Int32.reduceOfInt, Int32.reduceToNatClampNeg, i10, i01, Nat.add_left_cancel_iff, Nat.left_eq_add, Nat.add_eq_left, cdX10_wrong, F1, nI_1]
            exact ih (i + 1) _ (by omega) hf
      exact loop (M.s t).1 0 _ (by omega) rfl
  · refine go_ok okF1 (C := cdX10_wrong) (by rfl) [] 40 (by exact Nat.le_of_ble_eq_true rfl) ?_
    simp (maxSteps := 2000000) only [go, stp, inS, ↓reduceIte, Bool.false_eq_true, Nat.reduceLT, Nat.reduceEqDiff, Nat.reduceAdd, ldI, ldL, ldA, st1, st2, okS, List.getElem?_cons_zero, List.getElem?_cons_succ, List.length_cons, List.length_nil, List.set_cons_zero, List.set_cons_succ, callP, callF, popN, ct, Value.category, cI, List.getD_cons_zero, List.getD_cons_succ, and_self, and_true, true_and, Nat.zero_le, Nat.reduceLeDiff, Nat.add_zero, Nat.zero_add, List.nil_append, List.cons_append, Option.toList_some, Option.toList_none, List.append_nil, hset_ss, true_or, or_true, eq_self, beq_self_eq_true, List.drop_succ_cons, List.drop_zero, swT, swL, hset_ap, not_true_eq_false, not_false_eq_true, true_implies, false_implies, implies_true, Int32.reduceLE, Int32.reduceLT, Int32.reduceAdd, Int32.reduceSub, Int32.reduceOfInt, Int32.reduceToNatClampNeg, i10, i01, Nat.add_left_cancel_iff, Nat.left_eq_add, Nat.add_eq_left, cdX10_wrong, F1]
    rw [if_neg (fun q => ex q.1)] at hq
    exact hq h c sOff.rf
end C11
