
/-! GrownAsks$Grower: tests by lots -/
def lcg (s : Int32) : Int32 := 1103515245 * s + 12345
def ltN (s : Int32) (k : Nat) : Nat := (s.toBitVec.toNat / 65536) % k
theorem ltN_lt (s : Int32) {k : Nat} (h : 0 < k) : ltN s k < k := Nat.mod_lt _ h
def stk (Rm : Nat → Int32) : List Nat → Prop
  | [] => True
  | r :: rest => Rm rest.length = nI r ∧ stk Rm rest
theorem stk_upd {Rm : Nat → Int32} {k : Nat} {x : Int32} : ∀ {st : List Nat}, st.length ≤ k → stk Rm st → stk (upd Rm k x) st
  | [], _, _ => trivial
  | r :: rest, h, hs => ⟨by rw [pk_un (by simp at h; omega)]; exact hs.1, stk_upd (by simp at h; omega) hs.2⟩
def wr (B : Nat → Int32) (o : List Int32) (q : Nat) : Int32 := if q < o.length then o.getD q 0 else B q
theorem wr_nil (B : Nat → Int32) : wr B [] = B := by funext q; simp [wr]
theorem wr_add (B : Nat → Int32) (o : List Int32) (b : Int32) : wr B (o ++ [b]) = upd (wr B o) o.length b := by
  funext q
  simp only [wr, upd]
  by_cases h : q = o.length
  · subst h; simp
  · by_cases h2 : q < o.length
    · have : q < (o ++ [b]).length := by simp; omega
      rw [if_pos this, if_neg h, if_pos h2]; simp [List.getD, List.getElem?_append_left h2]
    · have : ¬ q < (o ++ [b]).length := by simp; omega
      rw [if_neg this, if_neg h, if_neg h2]
def pfold (s : pT) (p : Nat) : List Int32 → pT
  | [] => s
  | b :: bs => pfold (pstep s p b) (p + 1) bs
theorem pfold_add (b : Int32) : ∀ (o : List Int32) (s : pT) (p : Nat), pfold s p (o ++ [b]) = pstep (pfold s p o) (p + o.length) b
  | [], s, p => rfl
  | c :: o, s, p => by
    show pfold (pstep s p c) (p + 1) (o ++ [b]) = pstep (pfold (pstep s p c) (p + 1) o) (p + (o.length + 1)) b
    rw [pfold_add b o, show p + 1 + o.length = p + (o.length + 1) by omega]
abbrev gT : Type := List Nat × Int32 × List Int32
def gTerm (s : Int32) (o : List Int32) : Int32 × List Int32 :=
  if ltN (lcg s) 6 < 3 then (lcg s, o ++ [nI (97 + ltN (lcg s) 6)]) else if ltN (lcg s) 6 = 3 then (lcg s, o ++ [110])
  else (lcg (lcg s), (if ltN (lcg s) 6 = 5 then o ++ [45] else o) ++ [nI (48 + ltN (lcg (lcg s)) 10)])
def gK0 (s : Int32) (room : Nat) : Nat := if 1 < room then ltN s 7 else 4 + ltN s 3
def gKi (s : Int32) (room : Nat) : Nat := if room = 2 ∧ gK0 s room < 2 then gK0 s room + 2 else gK0 s room
def gstep : gT → gT
  | ([], s, o) => ([], s, o)
  | (room :: rest, s, o) =>
    if gKi (lcg s) room < 2 then ((1 + ltN (lcg (lcg s)) (room - 2)) :: (room - 1 - (1 + ltN (lcg (lcg s)) (room - 2))) :: rest, lcg (lcg s), o ++ [sA2 (gKi (lcg s) room)])
    else if gKi (lcg s) room < 4 then ((room - 1) :: rest, lcg s, o ++ [sA2 (gKi (lcg s) room)])
    else (rest, (gTerm (gTerm (lcg s) (o ++ [sA2 (gKi (lcg s) room)])).1 (gTerm (lcg s) (o ++ [sA2 (gKi (lcg s) room)])).2).1, (gTerm (gTerm (lcg s) (o ++ [sA2 (gKi (lcg s) room)])).1 (gTerm (lcg s) (o ++ [sA2 (gKi (lcg s) room)])).2).2)
def gF : Nat → gT → gT
  | 0, s => s
  | m + 1, s => gF m (gstep s)
def grB (seed : Int32) (r : Nat) : List Int32 := (gF 9 ([r], seed, [])).2.2
def GrAt (h : aH) (t : Nat) (Rm : Nat → Int32) (w : Nat) (sd : Int32) : Prop := h t = some (.inl (2, [.ref (t + 1), .int (nI w), .int sd])) ∧ h (t + 1) = some (.inr (9, .inl Rm))
theorem GrAt.kept {h h' : aH} {t : Nat} {Rm : Nat → Int32} {w : Nat} {sd : Int32} (hS : GrAt h t Rm w sd) (hk : ∀ q, t ≤ q → q < t + 2 → h' q = h q) : GrAt h' t Rm w sd := ⟨by rw [hk _ (by omega) (by omega)]; exact hS.1, by rw [hk _ (by omega) (by omega)]; exact hS.2⟩
def GxI (h : aH) (x : Nat) (B : Nat → Int32) (s0 : pT) (o : List Int32) : Prop := ∃ S, TxS h x (wr B o) S (pfold s0 0 o) o.length ∧ szOk S (pfold s0 0 o) ∧ pI (pfold s0 0 o) o.length
theorem GxI.kept {h h' : aH} {x : Nat} {B : Nat → Int32} {s0 : pT} {o : List Int32} (hG : GxI h x B s0 o) (hk : ∀ q, x ≤ q → q < x + 6 → h' q = h q) : GxI h' x B s0 o := by
  obtain ⟨S, h1, h2, h3⟩ := hG
  exact ⟨S, TxAt.kept h1 hk, h2, h3⟩
theorem lot_eq (s : Int32) {k : Nat} (h0 : 0 < k) (hk : k < 2147483648) : (s.toUInt32 >>> ((16 : Int32).toUInt32 &&& Int32.toUInt32 31)).toInt32 - (s.toUInt32 >>> ((16 : Int32).toUInt32 &&& Int32.toUInt32 31)).toInt32 / nI k * nI k = nI (ltN s k) := by
  have e : (s.toUInt32 >>> ((16 : Int32).toUInt32 &&& Int32.toUInt32 31)).toInt32 = nI (s.toBitVec.toNat / 65536) := by
    have h1 := pk_ushr s 16 16 (by decide +kernel)
    refine Int32.toBitVec_inj.mp (BitVec.eq_of_toNat_eq ?_)
    have := s.toBitVec.isLt
    rw [h1, pk_tn (by omega)]
  have := s.toBitVec.isLt
  rw [e, pk_rem (by omega) h0 hk]; rfl
section GR
variable {n : Nat} {h : aH} {Q : aQ} {t x : Nat} {Rm B : Nat → Int32} {w : Nat} {sd : Int32} {s0 : pT} {o : List Int32}
set_option maxRecDepth 100000 in
set_option maxHeartbeats 400000 in
theorem G_push {r : Int32} (hG : GrAt h t Rm w sd) (hw : w < 9) (hq : ∀ h', GrAt h' t (upd Rm w r) (w + 1) sd → sOff h h' t (t + 2) → Q none n h') : Ok 19 [.ref t, .int r] n h Q := by
  refine ok_of kMX2_push kCX2_push (Nat.le_of_ble_eq_true rfl) (fun z => ?_)
  change A z _ _ 0 0 _ 0 [some (.ref t), some (.int r)] [] _
  refine go_ok okF1 (C := cdX2_push) (by rfl) [] 40 (by exact Nat.le_of_ble_eq_true rfl) ?_
  simp (maxSteps := 2000000) only [go, stp, inS, ↓reduceIte, Bool.false_eq_true, Nat.reduceLT, Nat.reduceEqDiff, Nat.reduceAdd, ldI, ldL, ldA, st1, st2, okS, List.getElem?_cons_zero, List.getElem?_cons_succ, List.length_cons, List.length_nil, List.set_cons_zero, List.set_cons_succ, callP, callF, popN, ct, Value.category, cI, List.getD_cons_zero, List.getD_cons_succ, and_self, and_true, true_and, Nat.zero_le, Nat.reduceLeDiff, Nat.add_zero, Nat.zero_add, List.nil_append, List.cons_append, Option.toList_some, Option.toList_none, List.append_nil, hset_ss, true_or, or_true, eq_self, beq_self_eq_true, List.drop_succ_cons, List.drop_zero, swT, swL, hset_ap, not_true_eq_false, not_false_eq_true, true_implies, false_implies, implies_true, Int32.reduceLE, Int32.reduceLT, Int32.reduceAdd, Int32.reduceSub, Int32.reduceOfInt, Int32.reduceToNatClampNeg, i10, i01, Nat.add_left_cancel_iff, Nat.left_eq_add, Nat.add_eq_left, cdX2_push, F1, hG.1, hG.2, show ¬ nI w < 0 from i_nn (by omega), show ¬ (9 : Int32) ≤ nI w from fun c => absurd ((i_le (a := 9) (by omega) (by omega)).mp c) (by omega), i_cl (show w < 2147483648 by omega), nI_1]
  exact ⟨vp_in_nI (by omega) (by omega), hq _ ⟨hset_s _ _ _, by rw [hset_n _ _ (by omega)]; exact hset_s _ _ _⟩ ((sOff.rf.set (by omega) (by omega)).set (by omega) (by omega))⟩
set_option maxRecDepth 100000 in
set_option maxHeartbeats 400000 in
theorem G_pop (hG : GrAt h t Rm (w + 1) sd) (hw : w < 9) (hq : ∀ h', GrAt h' t Rm w sd → sOff h h' t (t + 2) → Q (some (.int (Rm w))) n h') : Ok 20 [.ref t] n h Q := by
  have e : nI (w + 1) - 1 = nI w := pk_sub (a := w + 1) (b := 1) (by omega)
  refine ok_of kMX2_pop kCX2_pop (Nat.le_of_ble_eq_true rfl) (fun z => ?_)
  change A z _ _ 0 0 _ 0 [some (.ref t)] [] _
  refine go_ok okF1 (C := cdX2_pop) (by rfl) [] 40 (by exact Nat.le_of_ble_eq_true rfl) ?_
  simp (maxSteps := 2000000) only [go, stp, inS, ↓reduceIte, Bool.false_eq_true, Nat.reduceLT, Nat.reduceEqDiff, Nat.reduceAdd, ldI, ldL, ldA, st1, st2, okS, List.getElem?_cons_zero, List.getElem?_cons_succ, List.length_cons, List.length_nil, List.set_cons_zero, List.set_cons_succ, callP, callF, popN, ct, Value.category, cI, List.getD_cons_zero, List.getD_cons_succ, and_self, and_true, true_and, Nat.zero_le, Nat.reduceLeDiff, Nat.add_zero, Nat.zero_add, List.nil_append, List.cons_append, Option.toList_some, Option.toList_none, List.append_nil, hset_ss, true_or, or_true, eq_self, beq_self_eq_true, List.drop_succ_cons, List.drop_zero, swT, swL, hset_ap, not_true_eq_false, not_false_eq_true, true_implies, false_implies, implies_true, Int32.reduceLE, Int32.reduceLT, Int32.reduceAdd, Int32.reduceSub, Int32.reduceOfInt, Int32.reduceToNatClampNeg, i10, i01, Nat.add_left_cancel_iff, Nat.left_eq_add, Nat.add_eq_left, cdX2_pop, F1, hG.1, hG.2, show ¬ nI (w + 1) < 1 from fun c => absurd ((i_lt (b := 1) (by omega) (by omega)).mp c) (by omega), show nI (w + 1) ≤ 9 from (i_le (b := 9) (by omega) (by omega)).mpr (by omega), i_cl (show w < 2147483648 by omega), e]
  exact ⟨vp_in_nI (by omega) (by omega), hq _ ⟨hset_s _ _ _, by rw [hset_n _ _ (by omega)]; exact hG.2⟩ (sOff.rf.set (by omega) (by omega))⟩
set_option maxRecDepth 100000 in
set_option maxHeartbeats 400000 in
theorem G_lot {k : Nat} (hG : GrAt h t Rm w sd) (h0 : 0 < k) (hk : k < 2147483648) (hq : ∀ h', GrAt h' t Rm w (lcg sd) → sOff h h' t (t + 2) → Q (some (.int (nI (ltN (lcg sd) k)))) n h') : Ok 21 [.ref t, .int (nI k)] n h Q := by
  refine ok_of kMX2_lot kCX2_lot (Nat.le_of_ble_eq_true rfl) (fun z => ?_)
  change A z _ _ 0 0 _ 0 [some (.ref t), some (.int (nI k))] [] _
  refine go_ok okF1 (C := cdX2_lot) (by rfl) [] 40 (by exact Nat.le_of_ble_eq_true rfl) ?_
  simp (maxSteps := 2000000) only [go, stp, inS, ↓reduceIte, Bool.false_eq_true, Nat.reduceLT, Nat.reduceEqDiff, Nat.reduceAdd, ldI, ldL, ldA, st1, st2, okS, List.getElem?_cons_zero, List.getElem?_cons_succ, List.length_cons, List.length_nil, List.set_cons_zero, List.set_cons_succ, callP, callF, popN, ct, Value.category, cI, List.getD_cons_zero, List.getD_cons_succ, and_self, and_true, true_and, Nat.zero_le, Nat.reduceLeDiff, Nat.add_zero, Nat.zero_add, List.nil_append, List.cons_append, Option.toList_some, Option.toList_none, List.append_nil, hset_ss, true_or, or_true, eq_self, beq_self_eq_true, List.drop_succ_cons, List.drop_zero, swT, swL, hset_ap, not_true_eq_false, not_false_eq_true, true_implies, false_implies, implies_true, Int32.reduceLE, Int32.reduceLT, Int32.reduceAdd, Int32.reduceSub, Int32.reduceOfInt, Int32.reduceToNatClampNeg, i10, i01, Nat.add_left_cancel_iff, Nat.left_eq_add, Nat.add_eq_left, cdX2_lot, F1, hG.1, show ¬ nI k ≤ 0 from fun c => absurd ((i_le (b := 0) (by omega) (by omega)).mp c) (by omega)]
  refine ⟨fun c => absurd ((i_eq (b := 0) (by omega) (by omega)).mp c) (by omega), ?_⟩
  rw [show 1103515245 * sd + 12345 = lcg sd from rfl, lot_eq _ h0 hk]
  exact hq _ ⟨hset_s _ _ _, by rw [hset_n _ _ (by omega)]; exact hG.2⟩ (sOff.rf.set (by omega) (by omega))
theorem G_app {b : Int32} (hX : GxI h x B s0 o) (hl : o.length < 40) (hq : ∀ h', GxI h' x B s0 (o ++ [b]) → sOff h h' x (x + 6) → Q (some (.int 1)) n h') : Ok 69 [.ref x, .int b] n h Q := by
  obtain ⟨S, h1, h2, h3⟩ := hX
  refine X_append h1 h3 (by omega) h2 (fun c => absurd c (by omega)) (fun _ h' S' a1 a2 a3 => hq h' ⟨S', ?_, ?_, ?_⟩ a3)
  · rw [wr_add, pfold_add, Nat.zero_add, List.length_append]; exact a1
  · rw [pfold_add, Nat.zero_add]; exact a2
  · rw [pfold_add, Nat.zero_add, List.length_append]; exact pI_step h3
def so2 (h h' : aH) (t x : Nat) : Prop := ∀ k, (k < t ∨ t + 2 ≤ k) → (k < x ∨ x + 6 ≤ k) → h' k = h k
theorem so2.rf {h : aH} {t x : Nat} : so2 h h t x := fun _ _ _ => rfl
theorem so2.g {h h1 h2 : aH} {t x : Nat} (a : so2 h h1 t x) (b : sOff h1 h2 t (t + 2)) : so2 h h2 t x := fun k h3 h4 => (b k h3).trans (a k h3 h4)
theorem so2.tx {h h1 h2 : aH} {t x : Nat} (a : so2 h h1 t x) (b : sOff h1 h2 x (x + 6)) : so2 h h2 t x := fun k h3 h4 => (b k h4).trans (a k h3 h4)
theorem so2.tr {h h1 h2 : aH} {t x : Nat} (a : so2 h h1 t x) (b : so2 h1 h2 t x) : so2 h h2 t x := fun k h3 h4 => (b k h3 h4).trans (a k h3 h4)
set_option maxRecDepth 100000 in
set_option maxHeartbeats 400000 in
theorem G_term (hG : GrAt h t Rm w sd) (hX : GxI h x B s0 o) (hd : t + 2 ≤ x ∨ x + 6 ≤ t) (hl : o.length + 2 ≤ 40) (hq : ∀ h', GrAt h' t Rm w (gTerm sd o).1 → GxI h' x B s0 (gTerm sd o).2 → so2 h h' t x → Q none n h') : Ok 23 [.ref t, .ref x] n h Q := by
  refine ok_of kMX2_growTerm kCX2_growTerm (Nat.le_of_ble_eq_true rfl) (fun z => ?_)
  change A z _ _ 0 0 _ 0 [some (.ref t), some (.ref x), none] [] _
  refine go_ok okF1 (C := cdX2_growTerm) (by rfl) [] 20 (by exact Nat.le_of_ble_eq_true rfl) ?_
  simp (maxSteps := 2000000) only [go, stp, inS, ↓reduceIte, Bool.false_eq_true, Nat.reduceLT, Nat.reduceEqDiff, Nat.reduceAdd, ldI, ldL, ldA, st1, st2, okS, List.getElem?_cons_zero, List.getElem?_cons_succ, List.length_cons, List.length_nil, List.set_cons_zero, List.set_cons_succ, callP, callF, popN, ct, Value.category, cI, List.getD_cons_zero, List.getD_cons_succ, and_self, and_true, true_and, Nat.zero_le, Nat.reduceLeDiff, Nat.add_zero, Nat.zero_add, List.nil_append, List.cons_append, Option.toList_some, Option.toList_none, List.append_nil, hset_ss, true_or, or_true, eq_self, beq_self_eq_true, List.drop_succ_cons, List.drop_zero, swT, swL, hset_ap, not_true_eq_false, not_false_eq_true, true_implies, false_implies, implies_true, Int32.reduceLE, Int32.reduceLT, Int32.reduceAdd, Int32.reduceSub, Int32.reduceOfInt, Int32.reduceToNatClampNeg, i10, i01, Nat.add_left_cancel_iff, Nat.left_eq_add, Nat.add_eq_left, cdX2_growTerm, F1, hG.1]
  refine G_lot (k := 6) hG (by omega) (by omega) (fun h1 hG1 hO1 => ?_)
  have hX1 := hX.kept (fun q a b => hO1 q (by omega))
  have hk6 := ltN_lt (lcg sd) (k := 6) (by omega)
  unfold gTerm at hq
  obtain ⟨S, hx1, -⟩ := id hX1
  refine go_ok okF1 (C := cdX2_growTerm) (by rfl) [51] 20 (by exact Nat.le_of_ble_eq_true rfl) ?_
  simp (maxSteps := 2000000) only [go, stp, inS, ↓reduceIte, Bool.false_eq_true, Nat.reduceLT, Nat.reduceEqDiff, Nat.reduceAdd, ldI, ldL, ldA, st1, st2, okS, List.getElem?_cons_zero, List.getElem?_cons_succ, List.length_cons, List.length_nil, List.set_cons_zero, List.set_cons_succ, callP, callF, popN, ct, Value.category, cI, List.getD_cons_zero, List.getD_cons_succ, and_self, and_true, true_and, Nat.zero_le, Nat.reduceLeDiff, Nat.add_zero, Nat.zero_add, List.nil_append, List.cons_append, Option.toList_some, Option.toList_none, List.append_nil, hset_ss, true_or, or_true, eq_self, beq_self_eq_true, List.drop_succ_cons, List.drop_zero, swT, swL, hset_ap, not_true_eq_false, not_false_eq_true, true_implies, false_implies, implies_true, Int32.reduceLE, Int32.reduceLT, Int32.reduceAdd, Int32.reduceSub, Int32.reduceOfInt, Int32.reduceToNatClampNeg, i10, i01, Nat.add_left_cancel_iff, Nat.left_eq_add, Nat.add_eq_left, cdX2_growTerm, F1, hx1.1]
  refine ⟨fun c3 => ?_, fun c3 => ?_⟩
  · have c3 : 3 ≤ ltN (lcg sd) 6 := (i_le (a := 3) (by omega) (by omega)).mp c3
    rw [if_neg (by omega)] at hq
    refine ⟨fun c4 => ?_, fun c4 => ?_⟩
    · have c4 : ¬ ltN (lcg sd) 6 = 3 := fun c => c4 ((i_eq (b := 3) (by omega) (by omega)).mpr c)
      rw [if_neg c4] at hq
      have fin : ∀ (h2 : aH) o', GrAt h2 t Rm w (lcg sd) → GxI h2 x B s0 o' → so2 h h2 t x → o' = (if ltN (lcg sd) 6 = 5 then o ++ [45] else o) → A z 23 n 0 0 h2 51 [some (.ref t), some (.ref x), some (.int (nI (ltN (lcg sd) 6)))] [] Q := by
        intro h2 o' hG2 hX2 hO2 ho
        refine go_ok okF1 (C := cdX2_growTerm) (by rfl) [] 20 (by exact Nat.le_of_ble_eq_true rfl) ?_
        simp (maxSteps := 2000000) only [go, stp, inS, ↓reduceIte, Bool.false_eq_true, Nat.reduceLT, Nat.reduceEqDiff, Nat.reduceAdd, ldI, ldL, ldA, st1, st2, okS, List.getElem?_cons_zero, List.getElem?_cons_succ, List.length_cons, List.length_nil, List.set_cons_zero, List.set_cons_succ, callP, callF, popN, ct, Value.category, cI, List.getD_cons_zero, List.getD_cons_succ, and_self, and_true, true_and, Nat.zero_le, Nat.reduceLeDiff, Nat.add_zero, Nat.zero_add, List.nil_append, List.cons_append, Option.toList_some, Option.toList_none, List.append_nil, hset_ss, true_or, or_true, eq_self, beq_self_eq_true, List.drop_succ_cons, List.drop_zero, swT, swL, hset_ap, not_true_eq_false, not_false_eq_true, true_implies, false_implies, implies_true, Int32.reduceLE, Int32.reduceLT, Int32.reduceAdd, Int32.reduceSub, Int32.reduceOfInt, Int32.reduceToNatClampNeg, i10, i01, Nat.add_left_cancel_iff, Nat.left_eq_add, Nat.add_eq_left, cdX2_growTerm, F1, hG2.1]
        refine G_lot (k := 10) hG2 (by omega) (by omega) (fun h3 hG3 hO3 => ?_)
        have hX3 := hX2.kept (fun q a b => hO3 q (by omega))
        obtain ⟨S, hx3, -⟩ := id hX3
        rw [← ho] at hq
        have hol : o'.length < 40 := by rw [ho]; split <;> (try simp) <;> omega
        refine go_ok okF1 (C := cdX2_growTerm) (by rfl) [] 20 (by exact Nat.le_of_ble_eq_true rfl) ?_
        simp (maxSteps := 2000000) only [go, stp, inS, ↓reduceIte, Bool.false_eq_true, Nat.reduceLT, Nat.reduceEqDiff, Nat.reduceAdd, ldI, ldL, ldA, st1, st2, okS, List.getElem?_cons_zero, List.getElem?_cons_succ, List.length_cons, List.length_nil, List.set_cons_zero, List.set_cons_succ, callP, callF, popN, ct, Value.category, cI, List.getD_cons_zero, List.getD_cons_succ, and_self, and_true, true_and, Nat.zero_le, Nat.reduceLeDiff, Nat.add_zero, Nat.zero_add, List.nil_append, List.cons_append, Option.toList_some, Option.toList_none, List.append_nil, hset_ss, true_or, or_true, eq_self, beq_self_eq_true, List.drop_succ_cons, List.drop_zero, swT, swL, hset_ap, not_true_eq_false, not_false_eq_true, true_implies, false_implies, implies_true, Int32.reduceLE, Int32.reduceLT, Int32.reduceAdd, Int32.reduceSub, Int32.reduceOfInt, Int32.reduceToNatClampNeg, i10, i01, Nat.add_left_cancel_iff, Nat.left_eq_add, Nat.add_eq_left, cdX2_growTerm, F1, hx3.1, show (48 : Int32) + nI (ltN (lcg (lcg sd)) 10) = nI (48 + ltN (lcg (lcg sd)) 10) from nI_add 48 _]
        refine G_app hX3 hol (fun h4 hX4 hO4 => ?_)
        refine go_ok okF1 (C := cdX2_growTerm) (by rfl) [] 20 (by exact Nat.le_of_ble_eq_true rfl) ?_
        simp (maxSteps := 2000000) only [go, stp, inS, ↓reduceIte, Bool.false_eq_true, Nat.reduceLT, Nat.reduceEqDiff, Nat.reduceAdd, ldI, ldL, ldA, st1, st2, okS, List.getElem?_cons_zero, List.getElem?_cons_succ, List.length_cons, List.length_nil, List.set_cons_zero, List.set_cons_succ, callP, callF, popN, ct, Value.category, cI, List.getD_cons_zero, List.getD_cons_succ, and_self, and_true, true_and, Nat.zero_le, Nat.reduceLeDiff, Nat.add_zero, Nat.zero_add, List.nil_append, List.cons_append, Option.toList_some, Option.toList_none, List.append_nil, hset_ss, true_or, or_true, eq_self, beq_self_eq_true, List.drop_succ_cons, List.drop_zero, swT, swL, hset_ap, not_true_eq_false, not_false_eq_true, true_implies, false_implies, implies_true, Int32.reduceLE, Int32.reduceLT, Int32.reduceAdd, Int32.reduceSub, Int32.reduceOfInt, Int32.reduceToNatClampNeg, i10, i01, Nat.add_left_cancel_iff, Nat.left_eq_add, Nat.add_eq_left, cdX2_growTerm, F1]
        exact hq h4 (hG3.kept (fun q a b => hO4 q (by omega))) hX4 ((hO2.g hO3).tx hO4)
      refine ⟨fun c5 => ?_, fun c5 => ?_⟩
      · have c5 : ¬ ltN (lcg sd) 6 = 5 := fun c => c5 ((i_eq (b := 5) (by omega) (by omega)).mpr c)
        exact fin h1 o hG1 hX1 (so2.rf.g hO1) (by rw [if_neg c5])
      · have c5 : ltN (lcg sd) 6 = 5 := (i_eq (b := 5) (by omega) (by omega)).mp c5
        refine G_app hX1 (by omega) (fun h2 hX2 hO2 => ?_)
        refine go_ok okF1 (C := cdX2_growTerm) (by rfl) [51] 20 (by exact Nat.le_of_ble_eq_true rfl) ?_
        simp (maxSteps := 2000000) only [go, stp, inS, ↓reduceIte, Bool.false_eq_true, Nat.reduceLT, Nat.reduceEqDiff, Nat.reduceAdd, ldI, ldL, ldA, st1, st2, okS, List.getElem?_cons_zero, List.getElem?_cons_succ, List.length_cons, List.length_nil, List.set_cons_zero, List.set_cons_succ, callP, callF, popN, ct, Value.category, cI, List.getD_cons_zero, List.getD_cons_succ, and_self, and_true, true_and, Nat.zero_le, Nat.reduceLeDiff, Nat.add_zero, Nat.zero_add, List.nil_append, List.cons_append, Option.toList_some, Option.toList_none, List.append_nil, hset_ss, true_or, or_true, eq_self, beq_self_eq_true, List.drop_succ_cons, List.drop_zero, swT, swL, hset_ap, not_true_eq_false, not_false_eq_true, true_implies, false_implies, implies_true, Int32.reduceLE, Int32.reduceLT, Int32.reduceAdd, Int32.reduceSub, Int32.reduceOfInt, Int32.reduceToNatClampNeg, i10, i01, Nat.add_left_cancel_iff, Nat.left_eq_add, Nat.add_eq_left, cdX2_growTerm, F1]
        exact fin h2 _ (hG1.kept (fun q a b => hO2 q (by omega))) hX2 ((so2.rf.g hO1).tx hO2) (by rw [if_pos c5])
    · have c4 : ltN (lcg sd) 6 = 3 := (i_eq (b := 3) (by omega) (by omega)).mp c4
      rw [if_pos c4] at hq
      refine G_app hX1 (by omega) (fun h2 hX2 hO2 => ?_)
      refine go_ok okF1 (C := cdX2_growTerm) (by rfl) [] 20 (by exact Nat.le_of_ble_eq_true rfl) ?_
      simp (maxSteps := 2000000) only [go, stp, inS, ↓reduceIte, Bool.false_eq_true, Nat.reduceLT, Nat.reduceEqDiff, Nat.reduceAdd, ldI, ldL, ldA, st1, st2, okS, List.getElem?_cons_zero, List.getElem?_cons_succ, List.length_cons, List.length_nil, List.set_cons_zero, List.set_cons_succ, callP, callF, popN, ct, Value.category, cI, List.getD_cons_zero, List.getD_cons_succ, and_self, and_true, true_and, Nat.zero_le, Nat.reduceLeDiff, Nat.add_zero, Nat.zero_add, List.nil_append, List.cons_append, Option.toList_some, Option.toList_none, List.append_nil, hset_ss, true_or, or_true, eq_self, beq_self_eq_true, List.drop_succ_cons, List.drop_zero, swT, swL, hset_ap, not_true_eq_false, not_false_eq_true, true_implies, false_implies, implies_true, Int32.reduceLE, Int32.reduceLT, Int32.reduceAdd, Int32.reduceSub, Int32.reduceOfInt, Int32.reduceToNatClampNeg, i10, i01, Nat.add_left_cancel_iff, Nat.left_eq_add, Nat.add_eq_left, cdX2_growTerm, F1]
      exact hq h2 (hG1.kept (fun q a b => hO2 q (by omega))) hX2 ((so2.rf.g hO1).tx hO2)
  · have c3 : ltN (lcg sd) 6 < 3 := by
      have := mt (i_le (a := 3) (b := ltN (lcg sd) 6) (by omega) (by omega)).mpr c3; omega
    rw [if_pos c3] at hq
    rw [show (97 : Int32) + nI (ltN (lcg sd) 6) = nI (97 + ltN (lcg sd) 6) from nI_add 97 _]
    refine G_app hX1 (by omega) (fun h2 hX2 hO2 => ?_)
    refine go_ok okF1 (C := cdX2_growTerm) (by rfl) [] 20 (by exact Nat.le_of_ble_eq_true rfl) ?_
    simp (maxSteps := 2000000) only [go, stp, inS, ↓reduceIte, Bool.false_eq_true, Nat.reduceLT, Nat.reduceEqDiff, Nat.reduceAdd, ldI, ldL, ldA, st1, st2, okS, List.getElem?_cons_zero, List.getElem?_cons_succ, List.length_cons, List.length_nil, List.set_cons_zero, List.set_cons_succ, callP, callF, popN, ct, Value.category, cI, List.getD_cons_zero, List.getD_cons_succ, and_self, and_true, true_and, Nat.zero_le, Nat.reduceLeDiff, Nat.add_zero, Nat.zero_add, List.nil_append, List.cons_append, Option.toList_some, Option.toList_none, List.append_nil, hset_ss, true_or, or_true, eq_self, beq_self_eq_true, List.drop_succ_cons, List.drop_zero, swT, swL, hset_ap, not_true_eq_false, not_false_eq_true, true_implies, false_implies, implies_true, Int32.reduceLE, Int32.reduceLT, Int32.reduceAdd, Int32.reduceSub, Int32.reduceOfInt, Int32.reduceToNatClampNeg, i10, i01, Nat.add_left_cancel_iff, Nat.left_eq_add, Nat.add_eq_left, cdX2_growTerm, F1]
    exact hq h2 (hG1.kept (fun q a b => hO2 q (by omega))) hX2 ((so2.rf.g hO1).tx hO2)
end GR
