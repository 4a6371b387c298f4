
/-! the model: small tables -/
def sqF (k : Nat) : Nat := if k = 0 then 0 else if k < 7 then 1 else 2
def sbF (k : Nat) : Nat := if k < 7 then (k - 1) % 2 else (k - 7) % 2
def saF (k : Nat) : Nat := if k < 7 then (k - 1) / 2 else (k - 7) / 2
def aOf (x : Nat) : Int32 := if x = 0 then -100 else nI x - 1
def scF (k q : Nat) : Int32 := if q % 3 = 0 then aOf (if q / 3 = 0 then saF k % 3 else saF k / 3) else if q % 3 = 1 then (if sbF k = 0 then -100 else 0) else 0
def ikF (k : Nat) : Nat := if k < 7 then 4 * ((k - 1) % 2 * 3 + (k - 1) / 2) else 4 * ((k - 7) % 2 * 3 + (k - 7) / 2 % 3) + 1 + (k - 7) / 2 / 3
def kiF (i : Nat) : Nat := if i % 4 = 0 then 1 + 2 * (i / 4 % 3) + i / 4 / 3 else 7 + 2 * (i / 4 % 3 + 3 * (i % 4 - 1)) + i / 4 / 3
theorem ki_ok : ∀ i, i < 24 → 1 ≤ kiF i ∧ kiF i < 25 ∧ ikF (kiF i) = i := by decide +kernel
theorem ik_ok : ∀ k, k < 25 → k = 0 ∨ (ikF k < 24 ∧ pcN (TmF (ikF k)) 12 = sqF k ∧ (∀ r, r < 12 → bt (TmF (ikF k)) r = true → ∀ c, c < 3 → scF k (pcN (TmF (ikF k)) r * 3 + c) = smTf (r * 3 + c))) := by decide +kernel
theorem Tm_12 : ∀ i, i < 24 → ∀ j, j < 20 → bt (TmF i) (12 + j) = false := by decide +kernel
theorem sc_ok : ∀ k, k < 25 → ∀ i, i < 6 → okV (scF k i) := by unfold okV; decide +kernel
section SM
variable {n : Nat} {h : aH} {Q : aQ} {M : MS} {c : Nat → Int32} {a : Nat → Nat → Int32} {l : Nat → Nat → Int64} {s : pT}
theorem sm_lw {M : MS} {s : pT} {k law : Nat} (hk : k < 25) (hs : sOk s) (hl : law < 7) {g : Nat → Int32} (hg : ∀ i, i < sqF k * 3 → g i = scF k i) : lwQ M s g (sqF k) 0 law = (if k = 0 then false else bkS s smTf 12 law (M.ru &&& M.fa) 0 (TmF (ikF k))) := by
  rcases ik_ok k hk with e | ⟨h1, h2, h3⟩
  · subst e
    rw [if_pos rfl]
    unfold lwQ
    rw [show sqF 0 = 0 from rfl, (alm_z (by omega)).mpr rfl, lwR_z]
  · have k0 : ¬ k = 0 := fun e => by subst e; rw [show sqF 0 = 0 from rfl] at h2; revert h2; decide
    rw [if_neg k0]
    unfold lwQ bkS bkE
    have hb : ∀ i, 12 ≤ i → bt (TmF (ikF k)) i = false := fun i hi => by
      rcases Nat.lt_or_ge i 32 with h32 | h32
      · have := Tm_12 (ikF k) h1 (i - 12) (by omega)
        rw [show 12 + (i - 12) = i by omega] at this; exact this
      · exact b_big h32
    have hf : cpF (TmF (ikF k)) 12 smTf g := fun r hr hb2 c hc => by
      have := pcN_lt hr hb2
      rw [hg _ (by omega)]; exact h3 r hr hb2 c hc
    have := lw_comp (law := law) (cmp := cmB (sG s 0)) (d := bt (M.ru &&& M.fa)) (V := fun r => evS s smTf (bt (M.ru &&& M.fa)) r 0) (V' := fun r => evS s g (bt (M.ru &&& M.fa)) r 0) hl (by omega) hb hf (fun r hr hb2 => evS_row (d := bt (M.ru &&& M.fa)) (k := 0) hs (fun c hc => hf r hr hb2 c hc) hs.1)
    rw [h2] at this
    exact this.symm
theorem sm_any {s : pT} {law : Nat} {dn : Int32} : anyB 25 (fun k => if k = 0 then false else bkS s smTf 12 law dn 0 (TmF (ikF k))) = smB s law dn := by
  unfold smB
  rw [Bool.eq_iff_iff, anyB_iff, anyB_iff]
  constructor
  · rintro ⟨k, h1, h2⟩
    by_cases e : k = 0
    · rw [if_pos e] at h2; cases h2
    · rw [if_neg e] at h2
      rcases ik_ok k h1 with q | q
      · exact absurd q e
      · exact ⟨ikF k, q.1, h2⟩
  · rintro ⟨i, h1, h2⟩
    obtain ⟨q1, q2, q3⟩ := ki_ok i h1
    exact ⟨kiF i, q2, by rw [if_neg (by omega), q3]; exact h2⟩
theorem aOf_i (x : Nat) (hx : x < 100) : (if nI x = 0 then (-100 : Int32) else nI x - 1) = aOf x := by
  unfold aOf
  by_cases e : x = 0
  · subst e; rfl
  · rw [if_neg (nI_ne0 (by omega) (by omega)), if_neg e]
set_option maxRecDepth 100000 in
set_option maxHeartbeats 400000 in
theorem D_small {k : Nat} (hk : k < 25) (m : MH h c a l) (rd : rdy M s c a l) (hq : ∀ h' c' a', MH h' c' a' l → rdy M s c' a' l → c' 7 = nI (sqF k) → (∀ i, i < sqF k * 3 → a' 8 i = scF k i) → sOff h h' 52 80 → Q none n h') : Ok 229 [.ref 52, .int (nI k)] n h Q := by
  refine ok_of kMX11_asksSmall kCX11_asksSmall (Nat.le_of_ble_eq_true rfl) (fun z => ?_)
  change A z _ _ 0 0 _ 0 [some (.ref 52), some (.int (nI k)), none, none, none] [] _
  have fin : ∀ h' q g, q = sqF k → MH h' (upd c 7 (nI q)) (fset a 8 g) l → (∀ i, i < q * 3 → g i = scF k i) → sOff h h' 52 80 → Q none n h' := fun h' q g eq m' hg o' => by
    subst eq
    exact hq h' _ _ m' ((rd.sc 7 _ (by omega)).sa _ (fun i i1 i2 i3 i4 => fset_n _ _ i1)) rfl hg o'
  by_cases k0 : k = 0
  · subst k0
    refine go_ok okF1 (C := cdX11_asksSmall) (by rfl) [] 90 (by exact Nat.le_of_ble_eq_true rfl) ?_
    simp (maxSteps := 2000000) only [go, stp, inS, ↓reduceIte, Bool.false_eq_true, Nat.reduceLT, Nat.reduceEqDiff, Nat.reduceAdd, ldI, ldL, ldA, st1, st2, okS, List.getElem?_cons_zero, List.getElem?_cons_succ, List.length_cons, List.length_nil, List.set_cons_zero, List.set_cons_succ, callP, callF, popN, ct, Value.category, cI, List.getD_cons_zero, List.getD_cons_succ, and_self, and_true, true_and, Nat.zero_le, Nat.reduceLeDiff, Nat.add_zero, Nat.zero_add, List.nil_append, List.cons_append, Option.toList_some, Option.toList_none, List.append_nil, hset_ss, true_or, or_true, eq_self, beq_self_eq_true, List.drop_succ_cons, List.drop_zero, swT, swL, hset_ap, not_true_eq_false, not_false_eq_true, true_implies, false_implies, implies_true, Int32.reduceLE, Int32.reduceLT, Int32.reduceAdd, Int32.reduceSub, Int32.reduceOfInt, Int32.reduceToNatClampNeg, i10, i01, Nat.add_left_cancel_iff, Nat.left_eq_add, Nat.add_eq_left, cdX11_asksSmall, F1, m.o, (show nI 0 = 0 from rfl)]
    exact ⟨by decide, by decide, fin _ 0 (a 8) rfl (by rw [fset_me]; exact m.sc (upd c 7 0)) (fun i hi => absurd hi (by omega)) (sOff.rf.set (by omega) (by omega))⟩
  · have e0 : ¬ nI k = 0 := nI_ne0 (by omega) (by omega)
    have dv : ∀ x : Nat, x < 100 → nI x / 2 = nI (x / 2) := fun x hx => pk_div (a := x) (d := 2) (by omega) (by omega) (by omega)
    have rm : ∀ x : Nat, x < 100 → nI x - nI (x / 2) * 2 = nI (x % 2) := fun x hx => by rw [← dv x hx]; exact pk_rem (a := x) (d := 2) (by omega) (by omega) (by omega)
    have dv3 : ∀ x : Nat, x < 100 → nI x / 3 = nI (x / 3) := fun x hx => pk_div (a := x) (d := 3) (by omega) (by omega) (by omega)
    have rm3 : ∀ x : Nat, x < 100 → nI x - nI (x / 3) * 3 = nI (x % 3) := fun x hx => by rw [← dv3 x hx]; exact pk_rem (a := x) (d := 3) (by omega) (by omega) (by omega)
    have bA : saF k < 100 ∧ sbF k < 100 := by unfold saF sbF; split <;> omega
    -- a row
    have row : ∀ q r h' g, r < q → q ≤ 2 → MH h' (upd c 7 (nI q)) (fset a 8 g) l → sOff h h' 52 80 → (∀ h2, MH h2 (upd c 7 (nI q)) (fset a 8 (upd (upd (upd g (3 * r) (aOf (if r = 0 then saF k % 3 else saF k / 3))) (3 * r + 1) (if sbF k = 0 then (-100 : Int32) else 0)) (3 * r + 2) 0)) l → sOff h h2 52 80 → A z 229 n 0 0 h2 68 [some (.ref 52), some (.int (nI k)), some (.int (nI (sbF k))), some (.int (nI (saF k))), some (.int (nI (r + 1)))] [] Q) → A z 229 n 0 0 h' 68 [some (.ref 52), some (.int (nI k)), some (.int (nI (sbF k))), some (.int (nI (saF k))), some (.int (nI r))] [] Q := by
      intro q r h' g hr hq2 m' o' nx
      have eq : ¬ nI q ≤ nI r := by rw [i_le (by omega) (by omega)]; omega
      have fix : ∀ va vb, va = aOf (if r = 0 then saF k % 3 else saF k / 3) → vb = (if sbF k = 0 then (-100 : Int32) else 0) → A z 229 n 0 0 (hset h' 58 (.inr (24, .inl (upd (upd (upd g (3 * r) va) (3 * r + 1) vb) (3 * r + 2) 0)))) 68 [some (.ref 52), some (.int (nI k)), some (.int (nI (sbF k))), some (.int (nI (saF k))), some (.int (nI (r + 1)))] [] Q := fun va vb h1 h2 => by
        subst h1 h2
        have m9 := m'.s8 (upd (upd (upd g (3 * r) (aOf (if r = 0 then saF k % 3 else saF k / 3))) (3 * r + 1) (if sbF k = 0 then (-100 : Int32) else 0)) (3 * r + 2) 0)
        rw [fsetset] at m9
        exact nx _ m9 (o'.set (by omega) (by omega))
      by_cases r0 : r = 0
      · subst r0
        by_cases b0 : nI (sbF k) = 0
        · have b1 : sbF k = 0 := (i_eq (b := 0) (by omega) (by omega)).mp b0
          refine go_ok okF1 (C := cdX11_asksSmall) (by rfl) [68] 60 (by exact Nat.le_of_ble_eq_true rfl) ?_
          simp (maxSteps := 2000000) only [go, stp, inS, ↓reduceIte, Bool.false_eq_true, Nat.reduceLT, Nat.reduceEqDiff, Nat.reduceAdd, ldI, ldL, ldA, st1, st2, okS, List.getElem?_cons_zero, List.getElem?_cons_succ, List.length_cons, List.length_nil, List.set_cons_zero, List.set_cons_succ, callP, callF, popN, ct, Value.category, cI, List.getD_cons_zero, List.getD_cons_succ, and_self, and_true, true_and, Nat.zero_le, Nat.reduceLeDiff, Nat.add_zero, Nat.zero_add, List.nil_append, List.cons_append, Option.toList_some, Option.toList_none, List.append_nil, hset_ss, true_or, or_true, eq_self, beq_self_eq_true, List.drop_succ_cons, List.drop_zero, swT, swL, hset_ap, not_true_eq_false, not_false_eq_true, true_implies, false_implies, implies_true, Int32.reduceLE, Int32.reduceLT, Int32.reduceAdd, Int32.reduceSub, Int32.reduceOfInt, Int32.reduceToNatClampNeg, i10, i01, Nat.add_left_cancel_iff, Nat.left_eq_add, Nat.add_eq_left, cdX11_asksSmall, F1, m'.o, (show upd c 7 (nI q) 7 = nI q from rfl), (show ¬ nI q ≤ 0 from eq), m'.a8, (show nI 0 = 0 from rfl), dv3 _ bA.1, rm3 _ bA.1, aOf_i _ (show saF k % 3 < 100 by omega), b0, Int32.reduceMul]
          refine ⟨by decide, vp_in_nI (n := 0) (by omega) (by omega), vp_in_nI (n := 1) (by omega) (by omega), vp_in_nI (n := 2) (by omega) (by omega), ?_⟩
          have := fix _ (-100) rfl (by rw [if_pos b1])
          rw [b0] at this
          exact this
        · have b1 : ¬ sbF k = 0 := fun w => b0 (by rw [w]; rfl)
          refine go_ok okF1 (C := cdX11_asksSmall) (by rfl) [68] 60 (by exact Nat.le_of_ble_eq_true rfl) ?_
          simp (maxSteps := 2000000) only [go, stp, inS, ↓reduceIte, Bool.false_eq_true, Nat.reduceLT, Nat.reduceEqDiff, Nat.reduceAdd, ldI, ldL, ldA, st1, st2, okS, List.getElem?_cons_zero, List.getElem?_cons_succ, List.length_cons, List.length_nil, List.set_cons_zero, List.set_cons_succ, callP, callF, popN, ct, Value.category, cI, List.getD_cons_zero, List.getD_cons_succ, and_self, and_true, true_and, Nat.zero_le, Nat.reduceLeDiff, Nat.add_zero, Nat.zero_add, List.nil_append, List.cons_append, Option.toList_some, Option.toList_none, List.append_nil, hset_ss, true_or, or_true, eq_self, beq_self_eq_true, List.drop_succ_cons, List.drop_zero, swT, swL, hset_ap, not_true_eq_false, not_false_eq_true, true_implies, false_implies, implies_true, Int32.reduceLE, Int32.reduceLT, Int32.reduceAdd, Int32.reduceSub, Int32.reduceOfInt, Int32.reduceToNatClampNeg, i10, i01, Nat.add_left_cancel_iff, Nat.left_eq_add, Nat.add_eq_left, cdX11_asksSmall, F1, m'.o, (show upd c 7 (nI q) 7 = nI q from rfl), (show ¬ nI q ≤ 0 from eq), m'.a8, (show nI 0 = 0 from rfl), dv3 _ bA.1, rm3 _ bA.1, aOf_i _ (show saF k % 3 < 100 by omega), b0, Int32.reduceMul]
          refine ⟨by decide, vp_in_nI (n := 0) (by omega) (by omega), vp_in_nI (n := 1) (by omega) (by omega), vp_in_nI (n := 2) (by omega) (by omega), ?_⟩
          exact fix _ 0 rfl (by rw [if_neg b1])
      · obtain rfl : r = 1 := by omega
        by_cases b0 : nI (sbF k) = 0
        · have b1 : sbF k = 0 := (i_eq (b := 0) (by omega) (by omega)).mp b0
          refine go_ok okF1 (C := cdX11_asksSmall) (by rfl) [68] 60 (by exact Nat.le_of_ble_eq_true rfl) ?_
          simp (maxSteps := 2000000) only [go, stp, inS, ↓reduceIte, Bool.false_eq_true, Nat.reduceLT, Nat.reduceEqDiff, Nat.reduceAdd, ldI, ldL, ldA, st1, st2, okS, List.getElem?_cons_zero, List.getElem?_cons_succ, List.length_cons, List.length_nil, List.set_cons_zero, List.set_cons_succ, callP, callF, popN, ct, Value.category, cI, List.getD_cons_zero, List.getD_cons_succ, and_self, and_true, true_and, Nat.zero_le, Nat.reduceLeDiff, Nat.add_zero, Nat.zero_add, List.nil_append, List.cons_append, Option.toList_some, Option.toList_none, List.append_nil, hset_ss, true_or, or_true, eq_self, beq_self_eq_true, List.drop_succ_cons, List.drop_zero, swT, swL, hset_ap, not_true_eq_false, not_false_eq_true, true_implies, false_implies, implies_true, Int32.reduceLE, Int32.reduceLT, Int32.reduceAdd, Int32.reduceSub, Int32.reduceOfInt, Int32.reduceToNatClampNeg, i10, i01, Nat.add_left_cancel_iff, Nat.left_eq_add, Nat.add_eq_left, cdX11_asksSmall, F1, m'.o, (show upd c 7 (nI q) 7 = nI q from rfl), (show ¬ nI q ≤ 1 from eq), m'.a8, (show nI 1 = 1 from rfl), dv3 _ bA.1, aOf_i _ (show saF k / 3 < 100 by omega), b0, Int32.reduceMul]
          refine ⟨by decide, vp_in_nI (n := 3) (by omega) (by omega), vp_in_nI (n := 4) (by omega) (by omega), vp_in_nI (n := 5) (by omega) (by omega), ?_⟩
          have := fix _ (-100) rfl (by rw [if_pos b1])
          rw [b0] at this
          exact this
        · have b1 : ¬ sbF k = 0 := fun w => b0 (by rw [w]; rfl)
          refine go_ok okF1 (C := cdX11_asksSmall) (by rfl) [68] 60 (by exact Nat.le_of_ble_eq_true rfl) ?_
          simp (maxSteps := 2000000) only [go, stp, inS, ↓reduceIte, Bool.false_eq_true, Nat.reduceLT, Nat.reduceEqDiff, Nat.reduceAdd, ldI, ldL, ldA, st1, st2, okS, List.getElem?_cons_zero, List.getElem?_cons_succ, List.length_cons, List.length_nil, List.set_cons_zero, List.set_cons_succ, callP, callF, popN, ct, Value.category, cI, List.getD_cons_zero, List.getD_cons_succ, and_self, and_true, true_and, Nat.zero_le, Nat.reduceLeDiff, Nat.add_zero, Nat.zero_add, List.nil_append, List.cons_append, Option.toList_some, Option.toList_none, List.append_nil, hset_ss, true_or, or_true, eq_self, beq_self_eq_true, List.drop_succ_cons, List.drop_zero, swT, swL, hset_ap, not_true_eq_false, not_false_eq_true, true_implies, false_implies, implies_true, Int32.reduceLE, Int32.reduceLT, Int32.reduceAdd, Int32.reduceSub, Int32.reduceOfInt, Int32.reduceToNatClampNeg, i10, i01, Nat.add_left_cancel_iff, Nat.left_eq_add, Nat.add_eq_left, cdX11_asksSmall, F1, m'.o, (show upd c 7 (nI q) 7 = nI q from rfl), (show ¬ nI q ≤ 1 from eq), m'.a8, (show nI 1 = 1 from rfl), dv3 _ bA.1, aOf_i _ (show saF k / 3 < 100 by omega), b0, Int32.reduceMul]
          refine ⟨by decide, vp_in_nI (n := 3) (by omega) (by omega), vp_in_nI (n := 4) (by omega) (by omega), vp_in_nI (n := 5) (by omega) (by omega), ?_⟩
          exact fix _ 0 rfl (by rw [if_neg b1])
    have stop : ∀ q h' g, q = sqF k → q ≤ 2 → MH h' (upd c 7 (nI q)) (fset a 8 g) l → (∀ i, i < q * 3 → g i = scF k i) → sOff h h' 52 80 → A z 229 n 0 0 h' 68 [some (.ref 52), some (.int (nI k)), some (.int (nI (sbF k))), some (.int (nI (saF k))), some (.int (nI q))] [] Q := fun q h' g e1 e2 m' hg o' => by
      refine go_ok okF1 (C := cdX11_asksSmall) (by rfl) [] 60 (by exact Nat.le_of_ble_eq_true rfl) ?_
      simp (maxSteps := 2000000) only [go, stp, inS, ↓reduceIte, Bool.false_eq_true, Nat.reduceLT, Nat.reduceEqDiff, Nat.reduceAdd, ldI, ldL, ldA, st1, st2, okS, List.getElem?_cons_zero, List.getElem?_cons_succ, List.length_cons, List.length_nil, List.set_cons_zero, List.set_cons_succ, callP, callF, popN, ct, Value.category, cI, List.getD_cons_zero, List.getD_cons_succ, and_self, and_true, true_and, Nat.zero_le, Nat.reduceLeDiff, Nat.add_zero, Nat.zero_add, List.nil_append, List.cons_append, Option.toList_some, Option.toList_none, List.append_nil, hset_ss, true_or, or_true, eq_self, beq_self_eq_true, List.drop_succ_cons, List.drop_zero, swT, swL, hset_ap, not_true_eq_false, not_false_eq_true, true_implies, false_implies, implies_true, Int32.reduceLE, Int32.reduceLT, Int32.reduceAdd, Int32.reduceSub, Int32.reduceOfInt, Int32.reduceToNatClampNeg, i10, i01, Nat.add_left_cancel_iff, Nat.left_eq_add, Nat.add_eq_left, cdX11_asksSmall, F1, m'.o, (show upd c 7 (nI q) 7 = nI q from rfl), (show nI q ≤ nI q from (i_le (by omega) (by omega)).mpr (by omega))]
      exact fin h' q g e1 m' hg o'
    by_cases k7 : k < 7
    · have f7 : ¬ 7 ≤ nI k := by rw [show (7 : Int32) = nI 7 from rfl, i_le (by omega) (by omega)]; omega
      have sq : sqF k = 1 := by unfold sqF; rw [if_neg k0, if_pos k7]
      have sa : saF k = (k - 1) / 2 := by unfold saF; rw [if_pos k7]
      have sb : sbF k = (k - 1) % 2 := by unfold sbF; rw [if_pos k7]
      have km : nI k - 1 = nI (k - 1) := pk_sub (b := 1) (by omega)
      refine go_ok okF1 (C := cdX11_asksSmall) (by rfl) [68] 60 (by exact Nat.le_of_ble_eq_true rfl) ?_
      simp (maxSteps := 2000000) only [go, stp, inS, ↓reduceIte, Bool.false_eq_true, Nat.reduceLT, Nat.reduceEqDiff, Nat.reduceAdd, ldI, ldL, ldA, st1, st2, okS, List.getElem?_cons_zero, List.getElem?_cons_succ, List.length_cons, List.length_nil, List.set_cons_zero, List.set_cons_succ, callP, callF, popN, ct, Value.category, cI, List.getD_cons_zero, List.getD_cons_succ, and_self, and_true, true_and, Nat.zero_le, Nat.reduceLeDiff, Nat.add_zero, Nat.zero_add, List.nil_append, List.cons_append, Option.toList_some, Option.toList_none, List.append_nil, hset_ss, true_or, or_true, eq_self, beq_self_eq_true, List.drop_succ_cons, List.drop_zero, swT, swL, hset_ap, not_true_eq_false, not_false_eq_true, true_implies, false_implies, implies_true, Int32.reduceLE, Int32.reduceLT, Int32.reduceAdd, Int32.reduceSub, Int32.reduceOfInt, Int32.reduceToNatClampNeg, i10, i01, Nat.add_left_cancel_iff, Nat.left_eq_add, Nat.add_eq_left, cdX11_asksSmall, F1, m.o, e0, f7, km, dv _ (show k - 1 < 100 by omega), rm _ (show k - 1 < 100 by omega)]
      refine ⟨by decide, by decide, ?_⟩
      rw [← sa, ← sb]
      have m1 : MH (hset h 52 (oM (upd c 7 1))) (upd c 7 (nI 1)) (fset a 8 (a 8)) l := by rw [fset_me]; exact m.sc (upd c 7 1)
      refine row 1 0 _ (a 8) (by omega) (by omega) m1 (sOff.rf.set (by omega) (by omega)) (fun h2 m2 o2 => ?_)
      refine stop 1 h2 _ sq.symm (by omega) m2 (fun i hi => ?_) o2
      rcases (by omega : i = 0 ∨ i = 1 ∨ i = 2) with rfl | rfl | rfl
      · rw [pk_un (by omega), pk_un (by omega)]; exact pk_us
      · rw [pk_un (by omega)]; exact pk_us
      · exact pk_us
    · have f7 : 7 ≤ nI k := by rw [show (7 : Int32) = nI 7 from rfl, i_le (by omega) (by omega)]; omega
      have sq : sqF k = 2 := by unfold sqF; rw [if_neg k0, if_neg k7]
      have sa : saF k = (k - 7) / 2 := by unfold saF; rw [if_neg k7]
      have sb : sbF k = (k - 7) % 2 := by unfold sbF; rw [if_neg k7]
      have km : nI k - 7 = nI (k - 7) := pk_sub (b := 7) (by omega)
      refine go_ok okF1 (C := cdX11_asksSmall) (by rfl) [68] 60 (by exact Nat.le_of_ble_eq_true rfl) ?_
      simp (maxSteps := 2000000) only [go, stp, inS, ↓reduceIte, Bool.false_eq_true, Nat.reduceLT, Nat.reduceEqDiff, Nat.reduceAdd, ldI, ldL, ldA, st1, st2, okS, List.getElem?_cons_zero, List.getElem?_cons_succ, List.length_cons, List.length_nil, List.set_cons_zero, List.set_cons_succ, callP, callF, popN, ct, Value.category, cI, List.getD_cons_zero, List.getD_cons_succ, and_self, and_true, true_and, Nat.zero_le, Nat.reduceLeDiff, Nat.add_zero, Nat.zero_add, List.nil_append, List.cons_append, Option.toList_some, Option.toList_none, List.append_nil, hset_ss, true_or, or_true, eq_self, beq_self_eq_true, List.drop_succ_cons, List.drop_zero, swT, swL, hset_ap, not_true_eq_false, not_false_eq_true, true_implies, false_implies, implies_true, Int32.reduceLE, Int32.reduceLT, Int32.reduceAdd, Int32.reduceSub, Int32.reduceOfInt, Int32.reduceToNatClampNeg, i10, i01, Nat.add_left_cancel_iff, Nat.left_eq_add, Nat.add_eq_left, cdX11_asksSmall, F1, m.o, e0, eq_true f7, km, dv _ (show k - 7 < 100 by omega), rm _ (show k - 7 < 100 by omega)]
      refine ⟨by decide, by decide, ?_⟩
      rw [← sa, ← sb]
      have m1 : MH (hset h 52 (oM (upd c 7 2))) (upd c 7 (nI 2)) (fset a 8 (a 8)) l := by rw [fset_me]; exact m.sc (upd c 7 2)
      refine row 2 0 _ (a 8) (by omega) (by omega) m1 (sOff.rf.set (by omega) (by omega)) (fun h2 m2 o2 => ?_)
      refine row 2 1 h2 _ (by omega) (by omega) m2 o2 (fun h3 m3 o3 => ?_)
      refine stop 2 h3 _ sq.symm (by omega) m3 (fun i hi => ?_) o3
      rcases (by omega : i = 0 ∨ i = 1 ∨ i = 2 ∨ i = 3 ∨ i = 4 ∨ i = 5) with rfl | rfl | rfl | rfl | rfl | rfl
      · rw [pk_un (by omega), pk_un (by omega), pk_un (by omega), pk_un (by omega), pk_un (by omega)]; exact pk_us
      · rw [pk_un (by omega), pk_un (by omega), pk_un (by omega), pk_un (by omega)]; exact pk_us
      · rw [pk_un (by omega), pk_un (by omega), pk_un (by omega)]; exact pk_us
      · rw [pk_un (by omega), pk_un (by omega)]; exact pk_us
      · rw [pk_un (by omega)]; exact pk_us
      · exact pk_us
end SM
