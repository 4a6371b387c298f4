
/-! GrownAsks$Cutter -/
def fstR (p : Nat → Bool) : Nat → Nat → Option Nat
  | 0, _ => none
  | m + 1, i => if p i = true then some i else fstR p m (i + 1)
def few (left : Int32) (r : Nat) : Int32 := left &&& (((1 : Int32) <<< (nI r &&& 31)) ^^^ (-1))
-- a step of cutting down, by what still quarrels
def cutS (bk : Nat → Int32 → Bool) (szk : Nat → Nat) (s : Int32 × Nat) : Option (Int32 × Nat) :=
  match fstR (fun r => !(few s.1 r == s.1) && bk s.2 (few s.1 r)) 8 0 with
  | some r => some (few s.1 r, s.2)
  | none => match fstR (fun k => bk k s.1) (szk s.2 - 1) (s.2 + 1) with
    | some k => some (s.1, k)
    | none => none
def cutF (bk : Nat → Int32 → Bool) (szk : Nat → Nat) : Nat → Int32 × Nat → Int32 × Nat
  | 0, s => s
  | m + 1, s => match cutS bk szk s with
    | some s' => cutF bk szk m s'
    | none => s
theorem fstR_s (p : Nat → Bool) (m i : Nat) : fstR p (m + 1) i = if p i = true then some i else fstR p m (i + 1) := rfl
theorem cutF_s (bk : Nat → Int32 → Bool) (szk : Nat → Nat) (m : Nat) (s : Int32 × Nat) : cutF bk szk (m + 1) s = match cutS bk szk s with
    | some s' => cutF bk szk m s'
    | none => s := rfl
theorem fstR_in {p : Nat → Bool} : ∀ {m i k : Nat}, fstR p m i = some k → i ≤ k ∧ k < i + m ∧ p k = true
  | 0, i, k, h => by cases h
  | m + 1, i, k, h => by
    rw [fstR] at h
    split at h
    · rename_i hp; cases h; exact ⟨by omega, by omega, hp⟩
    · obtain ⟨a, b, c⟩ := fstR_in h; exact ⟨by omega, by omega, c⟩
def CuO (h : aH) (c t : Nat) (left : Int32) (act : Nat) : Prop := h c = some (.inl (0, [.ref t, .int left, .int (nI act)]))
section CU
variable {n : Nat} {h : aH} {Q : aQ} {c t en tb most x : Nat} {f sE : Nat → Int32} {nr : Nat} {dn left : Int32} {W G S L R : Nat → Int32} {ac law act : Nat}
noncomputable def bkE (law : Nat) (d : Nat → Bool) (G : Nat → Int32) (ac : Nat) (L R f : Nat → Int32) (nr : Nat) (k : Nat) (s : Int32) : Bool := lwR law d f nr (fun r => ev d G ac L R f r k) s (cmB (G k))
-- what stays while quarrels are looked at
def cuG (c t en tb x most nr : Nat) (f sE G S L R : Nat → Int32) (ac : Nat) : Prop := lwG t en tb most nr f sE ∧ txOk G S L R ac ∧ (en + 3 ≤ x ∨ x + 6 ≤ en) ∧ (c < en ∨ en + 3 ≤ c) ∧ c ≠ t ∧ (c < tb ∨ tb + 3 ≤ c) ∧ (c < x ∨ x + 6 ≤ c)
def cuS (h : aH) (t en tb x most : Nat) (f sE : Nat → Int32) (nr : Nat) (dn : Int32) (W G S L R : Nat → Int32) (ac : Nat) : Prop := LwS h t en tb most f sE nr dn W ∧ TxW h x G S L R ac ∧ (∀ k, k < ac → W k = enc nr (fun r => ev (bt dn) G ac L R f r k))
theorem C_broken {s : Int32} {k : Nat} (hG : cuG c t en tb x most nr f sE G S L R ac) (hS : cuS h t en tb x most f sE nr dn W G S L R ac) (hk : k < ac) (hlaw : law < 7)
    (hq : ∀ h', cuS h' t en tb x most f sE nr dn W G S L R ac → sOff h h' en (en + 3) → Q (some (.int (if bkE law (bt dn) G ac L R f nr k s = true then 1 else 0))) n h') : Ok 25 [.ref t, .int (nI law), .ref x, .int (nI k), .int s] n h Q := by
  obtain ⟨g1, g2, g3, g4, g5, g6, g7⟩ := hG
  obtain ⟨s1, s2, s3⟩ := hS
  refine L_broken s1 g1 s2 g2 g3 hk hlaw (fun r _ => ev_le _ _) (s3 k hk) (fun h' hL hO => ?_)
  exact hq h' ⟨hL, s2.kept (fun q _ _ => hO q (by omega)), s3⟩ hO
set_option maxRecDepth 100000 in
set_option maxHeartbeats 400000 in
theorem C_leaveRow (hG : cuG c t en tb x most nr f sE G S L R ac) (hC : CuO h c t left act) (hS : cuS h t en tb x most f sE nr dn W G S L R ac) (hk : act < ac) (hlaw : law < 7)
    (hq0 : fstR (fun r => !(few left r == left) && bkE law (bt dn) G ac L R f nr act (few left r)) 8 0 = none → ∀ h', CuO h' c t left act → cuS h' t en tb x most f sE nr dn W G S L R ac → (∀ q, q ≠ c → (q < en ∨ en + 3 ≤ q) → h' q = h q) → Q (some (.int 0)) n h')
    (hq1 : ∀ r, fstR (fun r => !(few left r == left) && bkE law (bt dn) G ac L R f nr act (few left r)) 8 0 = some r → ∀ h', CuO h' c t (few left r) act → cuS h' t en tb x most f sE nr dn W G S L R ac → (∀ q, q ≠ c → (q < en ∨ en + 3 ≤ q) → h' q = h q) → Q (some (.int 1)) n h') : Ok 3 [.ref c, .int (nI law), .ref x] n h Q := by
  refine ok_of kMX0_leaveRow kCX0_leaveRow (Nat.le_of_ble_eq_true rfl) (fun z => ?_)
  change A z _ _ 0 0 _ 0 [some (.ref c), some (.int (nI law)), some (.ref x), none, none] [] _
  refine go_ok okF1 (C := cdX0_leaveRow) (by rfl) [2] 20 (by exact Nat.le_of_ble_eq_true rfl) ?_
  simp (maxSteps := 2000000) only [go, stp, inS, ↓reduceIte, Bool.false_eq_true, Nat.reduceLT, Nat.reduceEqDiff, Nat.reduceAdd, ldI, ldL, ldA, st1, st2, okS, List.getElem?_cons_zero, List.getElem?_cons_succ, List.length_cons, List.length_nil, List.set_cons_zero, List.set_cons_succ, callP, callF, popN, ct, Value.category, cI, List.getD_cons_zero, List.getD_cons_succ, and_self, and_true, true_and, Nat.zero_le, Nat.reduceLeDiff, Nat.add_zero, Nat.zero_add, List.nil_append, List.cons_append, Option.toList_some, Option.toList_none, List.append_nil, hset_ss, true_or, or_true, eq_self, beq_self_eq_true, List.drop_succ_cons, List.drop_zero, swT, swL, hset_ap, not_true_eq_false, not_false_eq_true, true_implies, false_implies, implies_true, Int32.reduceLE, Int32.reduceLT, Int32.reduceAdd, Int32.reduceSub, Int32.reduceOfInt, Int32.reduceToNatClampNeg, i10, i01, Nat.add_left_cancel_iff, Nat.left_eq_add, Nat.add_eq_left, cdX0_leaveRow, F1]
  obtain ⟨g1, g2, g3, g4, g5, g6, g7⟩ := id hG
  have loop : ∀ m r (g : Option Value) (h' : aH), r + m = 8 → fstR (fun r => !(few left r == left) && bkE law (bt dn) G ac L R f nr act (few left r)) 8 0 = fstR (fun r => !(few left r == left) && bkE law (bt dn) G ac L R f nr act (few left r)) m r → CuO h' c t left act → cuS h' t en tb x most f sE nr dn W G S L R ac → (∀ q, q ≠ c → (q < en ∨ en + 3 ≤ q) → h' q = h q) →
      A z 3 n 0 0 h' 2 [some (.ref c), some (.int (nI law)), some (.ref x), some (.int (nI r)), g] [] Q := by
    intro m
    induction m with
    | zero =>
      intro r g h' hm he hC' hS' hO
      have : r = 8 := by omega
      subst this
      refine go_ok okF1 (C := cdX0_leaveRow) (by rfl) [2] 20 (by exact Nat.le_of_ble_eq_true rfl) ?_
      simp (maxSteps := 2000000) only [go, stp, inS, ↓reduceIte, Bool.false_eq_true, Nat.reduceLT, Nat.reduceEqDiff, Nat.reduceAdd, ldI, ldL, ldA, st1, st2, okS, List.getElem?_cons_zero, List.getElem?_cons_succ, List.length_cons, List.length_nil, List.set_cons_zero, List.set_cons_succ, callP, callF, popN, ct, Value.category, cI, List.getD_cons_zero, List.getD_cons_succ, and_self, and_true, true_and, Nat.zero_le, Nat.reduceLeDiff, Nat.add_zero, Nat.zero_add, List.nil_append, List.cons_append, Option.toList_some, Option.toList_none, List.append_nil, hset_ss, true_or, or_true, eq_self, beq_self_eq_true, List.drop_succ_cons, List.drop_zero, swT, swL, hset_ap, not_true_eq_false, not_false_eq_true, true_implies, false_implies, implies_true, Int32.reduceLE, Int32.reduceLT, Int32.reduceAdd, Int32.reduceSub, Int32.reduceOfInt, Int32.reduceToNatClampNeg, i10, i01, Nat.add_left_cancel_iff, Nat.left_eq_add, Nat.add_eq_left, cdX0_leaveRow, F1, (show (8 : Int32) ≤ nI 8 from by decide)]
      exact hq0 he h' hC' hS' hO
    | succ m ih =>
      intro r g h' hm he hC' hS' hO
      have hlt : ¬ (8 : Int32) ≤ nI r := by rw [show (8 : Int32) = nI 8 from rfl, i_le (by omega) (by omega)]; omega
      have hfew : left &&& (((1 : Int32) <<< (nI r &&& 31)) ^^^ (-1)) = few left r := rfl
      refine go_ok okF1 (C := cdX0_leaveRow) (by rfl) [2] 40 (by exact Nat.le_of_ble_eq_true rfl) ?_
      simp (maxSteps := 2000000) only [go, stp, inS, ↓reduceIte, Bool.false_eq_true, Nat.reduceLT, Nat.reduceEqDiff, Nat.reduceAdd, ldI, ldL, ldA, st1, st2, okS, List.getElem?_cons_zero, List.getElem?_cons_succ, List.length_cons, List.length_nil, List.set_cons_zero, List.set_cons_succ, callP, callF, popN, ct, Value.category, cI, List.getD_cons_zero, List.getD_cons_succ, and_self, and_true, true_and, Nat.zero_le, Nat.reduceLeDiff, Nat.add_zero, Nat.zero_add, List.nil_append, List.cons_append, Option.toList_some, Option.toList_none, List.append_nil, hset_ss, true_or, or_true, eq_self, beq_self_eq_true, List.drop_succ_cons, List.drop_zero, swT, swL, hset_ap, not_true_eq_false, not_false_eq_true, true_implies, false_implies, implies_true, Int32.reduceLE, Int32.reduceLT, Int32.reduceAdd, Int32.reduceSub, Int32.reduceOfInt, Int32.reduceToNatClampNeg, i10, i01, Nat.add_left_cancel_iff, Nat.left_eq_add, Nat.add_eq_left, cdX0_leaveRow, F1, hlt, (show h' c = _ from hC'), hfew, nI_1, (show h' t = _ from hS'.1.1)]
      rw [fstR_s _ m r] at he
      refine ⟨fun c1 => ih (r + 1) _ h' (by omega) (by rw [he, if_neg (by simp [c1])]) hC' hS' hO, fun c1 => ?_⟩
      refine C_broken hG hS' hk hlaw (fun h'' hS'' hO'' => ?_)
      have hC'' : CuO h'' c t left act := by unfold CuO; rw [hO'' c (by omega)]; exact hC'
      have hO2 : ∀ q, q ≠ c → (q < en ∨ en + 3 ≤ q) → h'' q = h q := fun q a b => (hO'' q b).trans (hO q a b)
      refine go_ok okF1 (C := cdX0_leaveRow) (by rfl) [2] 40 (by exact Nat.le_of_ble_eq_true rfl) ?_
      simp (maxSteps := 2000000) only [go, stp, inS, ↓reduceIte, Bool.false_eq_true, Nat.reduceLT, Nat.reduceEqDiff, Nat.reduceAdd, ldI, ldL, ldA, st1, st2, okS, List.getElem?_cons_zero, List.getElem?_cons_succ, List.length_cons, List.length_nil, List.set_cons_zero, List.set_cons_succ, callP, callF, popN, ct, Value.category, cI, List.getD_cons_zero, List.getD_cons_succ, and_self, and_true, true_and, Nat.zero_le, Nat.reduceLeDiff, Nat.add_zero, Nat.zero_add, List.nil_append, List.cons_append, Option.toList_some, Option.toList_none, List.append_nil, hset_ss, true_or, or_true, eq_self, beq_self_eq_true, List.drop_succ_cons, List.drop_zero, swT, swL, hset_ap, not_true_eq_false, not_false_eq_true, true_implies, false_implies, implies_true, Int32.reduceLE, Int32.reduceLT, Int32.reduceAdd, Int32.reduceSub, Int32.reduceOfInt, Int32.reduceToNatClampNeg, i10, i01, Nat.add_left_cancel_iff, Nat.left_eq_add, Nat.add_eq_left, cdX0_leaveRow, F1, ib0, (show h'' c = _ from hC''), nI_1]
      refine ⟨fun c2 => ih (r + 1) _ h'' (by omega) (by rw [he, if_neg (by simp [c2])]) hC'' hS'' hO2, fun c2 => ?_⟩
      have c2 := Classical.not_not.mp c2
      refine hq1 r (by rw [he, if_pos (by simp [c1, c2])]) _ (hset_s _ _ _) ?_ (fun q a b => by rw [hset_n _ _ a]; exact hO2 q a b)
      obtain ⟨⟨l1, ⟨fi, ⟨l2, ⟨a1, b1, c1, d1, e1, l3⟩, l4⟩⟩, l5⟩, s2, s3⟩ := hS''
      refine ⟨⟨?_, ⟨fi, ?_, ⟨a1, b1, c1, d1, e1, ?_⟩, ?_⟩, l5.kept (fun q _ _ => hset_n _ _ (by omega))⟩, s2.kept (fun q _ _ => hset_n _ _ (by omega)), s3⟩
      · unfold LwO; rw [hset_n _ _ (by omega)]; exact l1
      · unfold EnO; rw [hset_n _ _ (by omega)]; exact l2
      · unfold SdAt; rw [hset_n _ _ (by omega)]; exact l3
      · rw [hset_n _ _ (by omega)]; exact l4
  exact loop 8 0 _ h rfl rfl hC hS (fun _ _ _ => rfl)
theorem cuS.set {h : aH} {v : aC} (hG : cuG c t en tb x most nr f sE G S L R ac) (hS : cuS h t en tb x most f sE nr dn W G S L R ac) : cuS (hset h c v) t en tb x most f sE nr dn W G S L R ac := by
  obtain ⟨g1, g2, g3, g4, g5, g6, g7⟩ := hG
  obtain ⟨⟨l1, ⟨fi, ⟨l2, ⟨a1, b1, c1, d1, e1, l3⟩, l4⟩⟩, l5⟩, s2, s3⟩ := hS
  refine ⟨⟨?_, ⟨fi, ?_, ⟨a1, b1, c1, d1, e1, ?_⟩, ?_⟩, l5.kept (fun q _ _ => hset_n _ _ (by omega))⟩, s2.kept (fun q _ _ => hset_n _ _ (by omega)), s3⟩
  · unfold LwO; rw [hset_n _ _ (by omega)]; exact l1
  · unfold EnO; rw [hset_n _ _ (by omega)]; exact l2
  · unfold SdAt; rw [hset_n _ _ (by omega)]; exact l3
  · rw [hset_n _ _ (by omega)]; exact l4
set_option maxRecDepth 100000 in
set_option maxHeartbeats 400000 in
theorem C_narrow (hG : cuG c t en tb x most nr f sE G S L R ac) (hC : CuO h c t left act) (hS : cuS h t en tb x most f sE nr dn W G S L R ac) (hk : act < ac) (hlaw : law < 7)
    (hq0 : fstR (fun k => bkE law (bt dn) G ac L R f nr k left) (sz G ac act - 1) (act + 1) = none → ∀ h', CuO h' c t left act → cuS h' t en tb x most f sE nr dn W G S L R ac → (∀ q, q ≠ c → (q < en ∨ en + 3 ≤ q) → h' q = h q) → Q (some (.int 0)) n h')
    (hq1 : ∀ k, fstR (fun k => bkE law (bt dn) G ac L R f nr k left) (sz G ac act - 1) (act + 1) = some k → ∀ h', CuO h' c t left k → cuS h' t en tb x most f sE nr dn W G S L R ac → (∀ q, q ≠ c → (q < en ∨ en + 3 ≤ q) → h' q = h q) → Q (some (.int 1)) n h') : Ok 4 [.ref c, .int (nI law), .ref x] n h Q := by
  obtain ⟨g1, g2, g3, g4, g5, g6, g7⟩ := id hG
  obtain ⟨B, len, ot, om, mi, sk, hX0⟩ := id hS.2.1
  obtain ⟨w1, w2, w3⟩ := sz_wf g2.2.1 _ act (Nat.le_refl _) hk
  have hac := g2.1
  have sA : (if 0 ≤ nI act ∧ nI act < nI ac ∧ nI act < 40 then S (nI act).toNatClampNeg else 0) = nI (sz G ac act) := by rw [gK hk hac, g2.2.2.1 act hk]
  refine ok_of kMX0_narrow kCX0_narrow (Nat.le_of_ble_eq_true rfl) (fun z => ?_)
  change A z _ _ 0 0 _ 0 [some (.ref c), some (.int (nI law)), some (.ref x), none, none] [] _
  refine go_ok okF1 (C := cdX0_narrow) (by rfl) [] 20 (by exact Nat.le_of_ble_eq_true rfl) ?_
  simp (maxSteps := 2000000) only [go, stp, inS, ↓reduceIte, Bool.false_eq_true, Nat.reduceLT, Nat.reduceEqDiff, Nat.reduceAdd, ldI, ldL, ldA, st1, st2, okS, List.getElem?_cons_zero, List.getElem?_cons_succ, List.length_cons, List.length_nil, List.set_cons_zero, List.set_cons_succ, callP, callF, popN, ct, Value.category, cI, List.getD_cons_zero, List.getD_cons_succ, and_self, and_true, true_and, Nat.zero_le, Nat.reduceLeDiff, Nat.add_zero, Nat.zero_add, List.nil_append, List.cons_append, Option.toList_some, Option.toList_none, List.append_nil, hset_ss, true_or, or_true, eq_self, beq_self_eq_true, List.drop_succ_cons, List.drop_zero, swT, swL, hset_ap, not_true_eq_false, not_false_eq_true, true_implies, false_implies, implies_true, Int32.reduceLE, Int32.reduceLT, Int32.reduceAdd, Int32.reduceSub, Int32.reduceOfInt, Int32.reduceToNatClampNeg, i10, i01, Nat.add_left_cancel_iff, Nat.left_eq_add, Nat.add_eq_left, cdX0_narrow, F1, (show h c = _ from hC), hX0.1]
  refine X_sizeAt hX0 ?_
  rw [sA]
  refine go_ok okF1 (C := cdX0_narrow) (by rfl) [22] 20 (by exact Nat.le_of_ble_eq_true rfl) ?_
  simp (maxSteps := 2000000) only [go, stp, inS, ↓reduceIte, Bool.false_eq_true, Nat.reduceLT, Nat.reduceEqDiff, Nat.reduceAdd, ldI, ldL, ldA, st1, st2, okS, List.getElem?_cons_zero, List.getElem?_cons_succ, List.length_cons, List.length_nil, List.set_cons_zero, List.set_cons_succ, callP, callF, popN, ct, Value.category, cI, List.getD_cons_zero, List.getD_cons_succ, and_self, and_true, true_and, Nat.zero_le, Nat.reduceLeDiff, Nat.add_zero, Nat.zero_add, List.nil_append, List.cons_append, Option.toList_some, Option.toList_none, List.append_nil, hset_ss, true_or, or_true, eq_self, beq_self_eq_true, List.drop_succ_cons, List.drop_zero, swT, swL, hset_ap, not_true_eq_false, not_false_eq_true, true_implies, false_implies, implies_true, Int32.reduceLE, Int32.reduceLT, Int32.reduceAdd, Int32.reduceSub, Int32.reduceOfInt, Int32.reduceToNatClampNeg, i10, i01, Nat.add_left_cancel_iff, Nat.left_eq_add, Nat.add_eq_left, cdX0_narrow, F1, (show h c = _ from hC), nI_1, nI_add]
  have loop : ∀ m k (h' : aH), k + m = act + sz G ac act → act < k → fstR (fun k => bkE law (bt dn) G ac L R f nr k left) (sz G ac act - 1) (act + 1) = fstR (fun k => bkE law (bt dn) G ac L R f nr k left) m k → CuO h' c t left act → cuS h' t en tb x most f sE nr dn W G S L R ac → (∀ q, q ≠ c → (q < en ∨ en + 3 ≤ q) → h' q = h q) →
      A z 4 n 0 0 h' 22 [some (.ref c), some (.int (nI law)), some (.ref x), some (.int (nI (act + sz G ac act))), some (.int (nI k))] [] Q := by
    intro m
    induction m with
    | zero =>
      intro k h' hm hka he hC' hS' hO
      have : k = act + sz G ac act := by omega
      subst this
      refine go_ok okF1 (C := cdX0_narrow) (by rfl) [22] 20 (by exact Nat.le_of_ble_eq_true rfl) ?_
      simp (maxSteps := 2000000) only [go, stp, inS, ↓reduceIte, Bool.false_eq_true, Nat.reduceLT, Nat.reduceEqDiff, Nat.reduceAdd, ldI, ldL, ldA, st1, st2, okS, List.getElem?_cons_zero, List.getElem?_cons_succ, List.length_cons, List.length_nil, List.set_cons_zero, List.set_cons_succ, callP, callF, popN, ct, Value.category, cI, List.getD_cons_zero, List.getD_cons_succ, and_self, and_true, true_and, Nat.zero_le, Nat.reduceLeDiff, Nat.add_zero, Nat.zero_add, List.nil_append, List.cons_append, Option.toList_some, Option.toList_none, List.append_nil, hset_ss, true_or, or_true, eq_self, beq_self_eq_true, List.drop_succ_cons, List.drop_zero, swT, swL, hset_ap, not_true_eq_false, not_false_eq_true, true_implies, false_implies, implies_true, Int32.reduceLE, Int32.reduceLT, Int32.reduceAdd, Int32.reduceSub, Int32.reduceOfInt, Int32.reduceToNatClampNeg, i10, i01, Nat.add_left_cancel_iff, Nat.left_eq_add, Nat.add_eq_left, cdX0_narrow, F1]
      exact ⟨fun _ => hq0 he h' hC' hS' hO, fun q => absurd ((i_le (by omega) (by omega)).mpr (Nat.le_refl _)) q⟩
    | succ m ih =>
      intro k h' hm hka he hC' hS' hO
      have hlt : ¬ nI (act + sz G ac act) ≤ nI k := by rw [i_le (by omega) (by omega)]; omega
      refine go_ok okF1 (C := cdX0_narrow) (by rfl) [22] 40 (by exact Nat.le_of_ble_eq_true rfl) ?_
      simp (maxSteps := 2000000) only [go, stp, inS, ↓reduceIte, Bool.false_eq_true, Nat.reduceLT, Nat.reduceEqDiff, Nat.reduceAdd, ldI, ldL, ldA, st1, st2, okS, List.getElem?_cons_zero, List.getElem?_cons_succ, List.length_cons, List.length_nil, List.set_cons_zero, List.set_cons_succ, callP, callF, popN, ct, Value.category, cI, List.getD_cons_zero, List.getD_cons_succ, and_self, and_true, true_and, Nat.zero_le, Nat.reduceLeDiff, Nat.add_zero, Nat.zero_add, List.nil_append, List.cons_append, Option.toList_some, Option.toList_none, List.append_nil, hset_ss, true_or, or_true, eq_self, beq_self_eq_true, List.drop_succ_cons, List.drop_zero, swT, swL, hset_ap, not_true_eq_false, not_false_eq_true, true_implies, false_implies, implies_true, Int32.reduceLE, Int32.reduceLT, Int32.reduceAdd, Int32.reduceSub, Int32.reduceOfInt, Int32.reduceToNatClampNeg, i10, i01, Nat.add_left_cancel_iff, Nat.left_eq_add, Nat.add_eq_left, cdX0_narrow, F1, hlt, (show h' c = _ from hC'), (show h' t = _ from hS'.1.1)]
      refine C_broken hG hS' (by omega) hlaw (fun h'' hS'' hO'' => ?_)
      have hC'' : CuO h'' c t left act := by unfold CuO; rw [hO'' c (by omega)]; exact hC'
      have hO2 : ∀ q, q ≠ c → (q < en ∨ en + 3 ≤ q) → h'' q = h q := fun q a b => (hO'' q b).trans (hO q a b)
      rw [fstR_s _ m k] at he
      refine go_ok okF1 (C := cdX0_narrow) (by rfl) [22] 40 (by exact Nat.le_of_ble_eq_true rfl) ?_
      simp (maxSteps := 2000000) only [go, stp, inS, ↓reduceIte, Bool.false_eq_true, Nat.reduceLT, Nat.reduceEqDiff, Nat.reduceAdd, ldI, ldL, ldA, st1, st2, okS, List.getElem?_cons_zero, List.getElem?_cons_succ, List.length_cons, List.length_nil, List.set_cons_zero, List.set_cons_succ, callP, callF, popN, ct, Value.category, cI, List.getD_cons_zero, List.getD_cons_succ, and_self, and_true, true_and, Nat.zero_le, Nat.reduceLeDiff, Nat.add_zero, Nat.zero_add, List.nil_append, List.cons_append, Option.toList_some, Option.toList_none, List.append_nil, hset_ss, true_or, or_true, eq_self, beq_self_eq_true, List.drop_succ_cons, List.drop_zero, swT, swL, hset_ap, not_true_eq_false, not_false_eq_true, true_implies, false_implies, implies_true, Int32.reduceLE, Int32.reduceLT, Int32.reduceAdd, Int32.reduceSub, Int32.reduceOfInt, Int32.reduceToNatClampNeg, i10, i01, Nat.add_left_cancel_iff, Nat.left_eq_add, Nat.add_eq_left, cdX0_narrow, F1, ib0, (show h'' c = _ from hC''), nI_1]
      refine ⟨fun c2 => ih (k + 1) h'' (by omega) (by omega) (by rw [he, if_neg c2]) hC'' hS'' hO2, fun c2 => ?_⟩
      have c2 := Classical.not_not.mp c2
      exact hq1 k (by rw [he, if_pos c2]) _ (hset_s _ _ _) (hS''.set hG) (fun q a b => by rw [hset_n _ _ a]; exact hO2 q a b)
  exact loop (sz G ac act - 1) (act + 1) h (by omega) (by omega) rfl hC hS (fun _ _ _ => rfl)
set_option maxRecDepth 100000 in
set_option maxHeartbeats 400000 in
theorem C_cutDown {l0 : Int32} {a0 : Nat} (hG : cuG c t en tb x most nr f sE G S L R ac) (hC : CuO h c t l0 a0) (hS : cuS h t en tb x most f sE nr dn W G S L R ac) (hk : 0 < ac) (hlaw : law < 7)
    (hq : ∀ h', CuO h' c t (cutF (bkE law (bt dn) G ac L R f nr) (sz G ac) 48 (left, 0)).1 (cutF (bkE law (bt dn) G ac L R f nr) (sz G ac) 48 (left, 0)).2 → (cutF (bkE law (bt dn) G ac L R f nr) (sz G ac) 48 (left, 0)).2 < ac → cuS h' t en tb x most f sE nr dn W G S L R ac → (∀ q, q ≠ c → (q < en ∨ en + 3 ≤ q) → h' q = h q) → Q none n h') : Ok 2 [.ref c, .int (nI law), .ref x, .int left] n h Q := by
  obtain ⟨g1, g2, g3, g4, g5, g6, g7⟩ := id hG
  generalize hbk : bkE law (bt dn) G ac L R f nr = bk at hq
  refine ok_of kMX0_cutDown kCX0_cutDown (Nat.le_of_ble_eq_true rfl) (fun z => ?_)
  change A z _ _ 0 0 _ 0 [some (.ref c), some (.int (nI law)), some (.ref x), some (.int left), none, none] [] _
  refine go_ok okF1 (C := cdX0_cutDown) (by rfl) [16] 30 (by exact Nat.le_of_ble_eq_true rfl) ?_
  simp (maxSteps := 2000000) only [go, stp, inS, ↓reduceIte, Bool.false_eq_true, Nat.reduceLT, Nat.reduceEqDiff, Nat.reduceAdd, ldI, ldL, ldA, st1, st2, okS, List.getElem?_cons_zero, List.getElem?_cons_succ, List.length_cons, List.length_nil, List.set_cons_zero, List.set_cons_succ, callP, callF, popN, ct, Value.category, cI, List.getD_cons_zero, List.getD_cons_succ, and_self, and_true, true_and, Nat.zero_le, Nat.reduceLeDiff, Nat.add_zero, Nat.zero_add, List.nil_append, List.cons_append, Option.toList_some, Option.toList_none, List.append_nil, hset_ss, true_or, or_true, eq_self, beq_self_eq_true, List.drop_succ_cons, List.drop_zero, swT, swL, hset_ap, not_true_eq_false, not_false_eq_true, true_implies, false_implies, implies_true, Int32.reduceLE, Int32.reduceLT, Int32.reduceAdd, Int32.reduceSub, Int32.reduceOfInt, Int32.reduceToNatClampNeg, i10, i01, Nat.add_left_cancel_iff, Nat.left_eq_add, Nat.add_eq_left, cdX0_cutDown, F1, (show h c = _ from hC)]
  have loop : ∀ m i (l : Int32) (a : Nat) (gg : Int32) (h' : aH), i + m = 48 → a < ac → (gg = 1 ∧ cutF bk (sz G ac) 48 (left, 0) = cutF bk (sz G ac) m (l, a) ∨ gg = 0 ∧ cutF bk (sz G ac) 48 (left, 0) = (l, a)) → CuO h' c t l a → cuS h' t en tb x most f sE nr dn W G S L R ac → (∀ q, q ≠ c → (q < en ∨ en + 3 ≤ q) → h' q = h q) →
      A z 2 n 0 0 h' 16 [some (.ref c), some (.int (nI law)), some (.ref x), some (.int left), some (.int gg), some (.int (nI i))] [] Q := by
    intro m
    induction m with
    | zero =>
      intro i l a gg h' hm ha he hC' hS' hO
      have : i = 48 := by omega
      subst this
      have he : cutF bk (sz G ac) 48 (left, 0) = (l, a) := he.elim (fun q => q.2) (fun q => q.2)
      refine go_ok okF1 (C := cdX0_cutDown) (by rfl) [16] 30 (by exact Nat.le_of_ble_eq_true rfl) ?_
      simp (maxSteps := 2000000) only [go, stp, inS, ↓reduceIte, Bool.false_eq_true, Nat.reduceLT, Nat.reduceEqDiff, Nat.reduceAdd, ldI, ldL, ldA, st1, st2, okS, List.getElem?_cons_zero, List.getElem?_cons_succ, List.length_cons, List.length_nil, List.set_cons_zero, List.set_cons_succ, callP, callF, popN, ct, Value.category, cI, List.getD_cons_zero, List.getD_cons_succ, and_self, and_true, true_and, Nat.zero_le, Nat.reduceLeDiff, Nat.add_zero, Nat.zero_add, List.nil_append, List.cons_append, Option.toList_some, Option.toList_none, List.append_nil, hset_ss, true_or, or_true, eq_self, beq_self_eq_true, List.drop_succ_cons, List.drop_zero, swT, swL, hset_ap, not_true_eq_false, not_false_eq_true, true_implies, false_implies, implies_true, Int32.reduceLE, Int32.reduceLT, Int32.reduceAdd, Int32.reduceSub, Int32.reduceOfInt, Int32.reduceToNatClampNeg, i10, i01, Nat.add_left_cancel_iff, Nat.left_eq_add, Nat.add_eq_left, cdX0_cutDown, F1, (show (48 : Int32) ≤ nI 48 from by decide)]
      rw [he] at hq
      exact hq h' hC' ha hS' hO
    | succ m ih =>
      intro i l a gg h' hm ha he hC' hS' hO
      have hlt : ¬ (48 : Int32) ≤ nI i := by rw [show (48 : Int32) = nI 48 from rfl, i_le (by omega) (by omega)]; omega
      rcases he with ⟨rfl, he⟩ | ⟨rfl, he⟩
      · refine go_ok okF1 (C := cdX0_cutDown) (by rfl) [16] 30 (by exact Nat.le_of_ble_eq_true rfl) ?_
        simp (maxSteps := 2000000) only [go, stp, inS, ↓reduceIte, Bool.false_eq_true, Nat.reduceLT, Nat.reduceEqDiff, Nat.reduceAdd, ldI, ldL, ldA, st1, st2, okS, List.getElem?_cons_zero, List.getElem?_cons_succ, List.length_cons, List.length_nil, List.set_cons_zero, List.set_cons_succ, callP, callF, popN, ct, Value.category, cI, List.getD_cons_zero, List.getD_cons_succ, and_self, and_true, true_and, Nat.zero_le, Nat.reduceLeDiff, Nat.add_zero, Nat.zero_add, List.nil_append, List.cons_append, Option.toList_some, Option.toList_none, List.append_nil, hset_ss, true_or, or_true, eq_self, beq_self_eq_true, List.drop_succ_cons, List.drop_zero, swT, swL, hset_ap, not_true_eq_false, not_false_eq_true, true_implies, false_implies, implies_true, Int32.reduceLE, Int32.reduceLT, Int32.reduceAdd, Int32.reduceSub, Int32.reduceOfInt, Int32.reduceToNatClampNeg, i10, i01, Nat.add_left_cancel_iff, Nat.left_eq_add, Nat.add_eq_left, cdX0_cutDown, F1, hlt, (show h' c = _ from hC')]
        rw [cutF_s _ _ m (l, a), cutS] at he
        dsimp only at he
        refine C_leaveRow hG hC' hS' ha hlaw (fun hn h1 hC1 hS1 hO1 => ?_) (fun r hr h1 hC1 hS1 hO1 => ?_)
        · refine go_ok okF1 (C := cdX0_cutDown) (by rfl) [16] 30 (by exact Nat.le_of_ble_eq_true rfl) ?_
          simp (maxSteps := 2000000) only [go, stp, inS, ↓reduceIte, Bool.false_eq_true, Nat.reduceLT, Nat.reduceEqDiff, Nat.reduceAdd, ldI, ldL, ldA, st1, st2, okS, List.getElem?_cons_zero, List.getElem?_cons_succ, List.length_cons, List.length_nil, List.set_cons_zero, List.set_cons_succ, callP, callF, popN, ct, Value.category, cI, List.getD_cons_zero, List.getD_cons_succ, and_self, and_true, true_and, Nat.zero_le, Nat.reduceLeDiff, Nat.add_zero, Nat.zero_add, List.nil_append, List.cons_append, Option.toList_some, Option.toList_none, List.append_nil, hset_ss, true_or, or_true, eq_self, beq_self_eq_true, List.drop_succ_cons, List.drop_zero, swT, swL, hset_ap, not_true_eq_false, not_false_eq_true, true_implies, false_implies, implies_true, Int32.reduceLE, Int32.reduceLT, Int32.reduceAdd, Int32.reduceSub, Int32.reduceOfInt, Int32.reduceToNatClampNeg, i10, i01, Nat.add_left_cancel_iff, Nat.left_eq_add, Nat.add_eq_left, cdX0_cutDown, F1, (show h1 c = _ from hC1)]
          rw [hbk] at hn
          rw [hn] at he
          dsimp only at he
          refine C_narrow hG hC1 hS1 ha hlaw (fun hn2 h2 hC2 hS2 hO2 => ?_) (fun k hk2 h2 hC2 hS2 hO2 => ?_)
          · refine go_ok okF1 (C := cdX0_cutDown) (by rfl) [16] 30 (by exact Nat.le_of_ble_eq_true rfl) ?_
            simp (maxSteps := 2000000) only [go, stp, inS, ↓reduceIte, Bool.false_eq_true, Nat.reduceLT, Nat.reduceEqDiff, Nat.reduceAdd, ldI, ldL, ldA, st1, st2, okS, List.getElem?_cons_zero, List.getElem?_cons_succ, List.length_cons, List.length_nil, List.set_cons_zero, List.set_cons_succ, callP, callF, popN, ct, Value.category, cI, List.getD_cons_zero, List.getD_cons_succ, and_self, and_true, true_and, Nat.zero_le, Nat.reduceLeDiff, Nat.add_zero, Nat.zero_add, List.nil_append, List.cons_append, Option.toList_some, Option.toList_none, List.append_nil, hset_ss, true_or, or_true, eq_self, beq_self_eq_true, List.drop_succ_cons, List.drop_zero, swT, swL, hset_ap, not_true_eq_false, not_false_eq_true, true_implies, false_implies, implies_true, Int32.reduceLE, Int32.reduceLT, Int32.reduceAdd, Int32.reduceSub, Int32.reduceOfInt, Int32.reduceToNatClampNeg, i10, i01, Nat.add_left_cancel_iff, Nat.left_eq_add, Nat.add_eq_left, cdX0_cutDown, F1, nI_1]
            rw [hbk] at hn2
            rw [hn2] at he
            exact ih (i + 1) l a 0 h2 (by omega) ha (Or.inr ⟨rfl, he⟩) hC2 hS2 (fun q x1 x2 => ((hO2 q x1 x2).trans (hO1 q x1 x2)).trans (hO q x1 x2))
          · refine go_ok okF1 (C := cdX0_cutDown) (by rfl) [16] 30 (by exact Nat.le_of_ble_eq_true rfl) ?_
            simp (maxSteps := 2000000) only [go, stp, inS, ↓reduceIte, Bool.false_eq_true, Nat.reduceLT, Nat.reduceEqDiff, Nat.reduceAdd, ldI, ldL, ldA, st1, st2, okS, List.getElem?_cons_zero, List.getElem?_cons_succ, List.length_cons, List.length_nil, List.set_cons_zero, List.set_cons_succ, callP, callF, popN, ct, Value.category, cI, List.getD_cons_zero, List.getD_cons_succ, and_self, and_true, true_and, Nat.zero_le, Nat.reduceLeDiff, Nat.add_zero, Nat.zero_add, List.nil_append, List.cons_append, Option.toList_some, Option.toList_none, List.append_nil, hset_ss, true_or, or_true, eq_self, beq_self_eq_true, List.drop_succ_cons, List.drop_zero, swT, swL, hset_ap, not_true_eq_false, not_false_eq_true, true_implies, false_implies, implies_true, Int32.reduceLE, Int32.reduceLT, Int32.reduceAdd, Int32.reduceSub, Int32.reduceOfInt, Int32.reduceToNatClampNeg, i10, i01, Nat.add_left_cancel_iff, Nat.left_eq_add, Nat.add_eq_left, cdX0_cutDown, F1, nI_1]
            rw [hbk] at hk2
            rw [hk2] at he
            obtain ⟨f1, f2, -⟩ := fstR_in hk2
            have := sz_wf g2.2.1 _ a (Nat.le_refl _) ha
            exact ih (i + 1) l k 1 h2 (by omega) (by omega) (Or.inl ⟨rfl, he⟩) hC2 hS2 (fun q x1 x2 => ((hO2 q x1 x2).trans (hO1 q x1 x2)).trans (hO q x1 x2))
        · refine go_ok okF1 (C := cdX0_cutDown) (by rfl) [16] 30 (by exact Nat.le_of_ble_eq_true rfl) ?_
          simp (maxSteps := 2000000) only [go, stp, inS, ↓reduceIte, Bool.false_eq_true, Nat.reduceLT, Nat.reduceEqDiff, Nat.reduceAdd, ldI, ldL, ldA, st1, st2, okS, List.getElem?_cons_zero, List.getElem?_cons_succ, List.length_cons, List.length_nil, List.set_cons_zero, List.set_cons_succ, callP, callF, popN, ct, Value.category, cI, List.getD_cons_zero, List.getD_cons_succ, and_self, and_true, true_and, Nat.zero_le, Nat.reduceLeDiff, Nat.add_zero, Nat.zero_add, List.nil_append, List.cons_append, Option.toList_some, Option.toList_none, List.append_nil, hset_ss, true_or, or_true, eq_self, beq_self_eq_true, List.drop_succ_cons, List.drop_zero, swT, swL, hset_ap, not_true_eq_false, not_false_eq_true, true_implies, false_implies, implies_true, Int32.reduceLE, Int32.reduceLT, Int32.reduceAdd, Int32.reduceSub, Int32.reduceOfInt, Int32.reduceToNatClampNeg, i10, i01, Nat.add_left_cancel_iff, Nat.left_eq_add, Nat.add_eq_left, cdX0_cutDown, F1, nI_1]
          rw [hbk] at hr
          rw [hr] at he
          exact ih (i + 1) _ a 1 h1 (by omega) ha (Or.inl ⟨rfl, he⟩) hC1 hS1 (fun q x1 x2 => (hO1 q x1 x2).trans (hO q x1 x2))
      · refine go_ok okF1 (C := cdX0_cutDown) (by rfl) [16] 30 (by exact Nat.le_of_ble_eq_true rfl) ?_
        simp (maxSteps := 2000000) only [go, stp, inS, ↓reduceIte, Bool.false_eq_true, Nat.reduceLT, Nat.reduceEqDiff, Nat.reduceAdd, ldI, ldL, ldA, st1, st2, okS, List.getElem?_cons_zero, List.getElem?_cons_succ, List.length_cons, List.length_nil, List.set_cons_zero, List.set_cons_succ, callP, callF, popN, ct, Value.category, cI, List.getD_cons_zero, List.getD_cons_succ, and_self, and_true, true_and, Nat.zero_le, Nat.reduceLeDiff, Nat.add_zero, Nat.zero_add, List.nil_append, List.cons_append, Option.toList_some, Option.toList_none, List.append_nil, hset_ss, true_or, or_true, eq_self, beq_self_eq_true, List.drop_succ_cons, List.drop_zero, swT, swL, hset_ap, not_true_eq_false, not_false_eq_true, true_implies, false_implies, implies_true, Int32.reduceLE, Int32.reduceLT, Int32.reduceAdd, Int32.reduceSub, Int32.reduceOfInt, Int32.reduceToNatClampNeg, i10, i01, Nat.add_left_cancel_iff, Nat.left_eq_add, Nat.add_eq_left, cdX0_cutDown, F1, hlt]
        rw [he] at hq
        exact hq h' hC' ha hS' hO
  exact loop 48 0 left 0 1 _ rfl hk (Or.inl ⟨rfl, rfl⟩) (hset_s _ _ _) (hS.set hG) (fun q a _ => hset_n _ _ a)
end CU
