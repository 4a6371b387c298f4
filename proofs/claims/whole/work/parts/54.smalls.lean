
/-! GrownAsks$Smalls -/
def SmO (h : aH) (t : Nat) (Tm : Nat → Int32) : Prop := h t = some (.inl (7, [.ref (t + 2), .ref (t + 5), .ref (t + 8), .ref (t + 1)])) ∧ h (t + 1) = some (.inr (24, .inl Tm))
def smP (h : aH) (t x : Nat) (Tm f sE G S L R : Nat → Int32) (ac : Nat) : Prop := SmO h t Tm ∧ LwO h (t + 8) (t + 5) (t + 2) ∧ (∃ al dn fi W, EnAt h (t + 5) (t + 2) al dn fi W) ∧ TbAt h (t + 2) 12 f sE 12 ∧ TxW h x G S L R ac
def smS (h : aH) (t x : Nat) (Tm f sE G S L R : Nat → Int32) (ac : Nat) (dn : Int32) (W : Nat → Int32) : Prop := SmO h t Tm ∧ cuS h (t + 8) (t + 5) (t + 2) x 12 f sE 12 dn W G S L R ac
def smG (t x : Nat) (f sE G S L R : Nat → Int32) (ac : Nat) : Prop := SEok f sE 12 ∧ txOk G S L R ac ∧ (x + 6 ≤ t ∨ t + 9 ≤ x) ∧ 0 < ac
section SM
variable {n : Nat} {h : aH} {Q : aQ} {t x : Nat} {Tm f sE G S L R W : Nat → Int32} {ac : Nat} {dn : Int32}
theorem smS.toE (hS : smS h t x Tm f sE G S L R ac dn W) : smP h t x Tm f sE G S L R ac := by
  obtain ⟨h1, ⟨a, ⟨fi, b⟩, c⟩, d, e⟩ := hS
  exact ⟨h1, a, ⟨_, _, fi, W, b⟩, c, d⟩
theorem Z_work {dn : Int32} (hG : smG t x f sE G S L R ac) (hS : smP h t x Tm f sE G S L R ac) (hq : ∀ h' W', smS h' t x Tm f sE G S L R ac dn W' → sOff h h' (t + 5) (t + 8) → Q none n h') : Ok 6 [.ref (t + 5), .ref x, .int dn] n h Q := by
  obtain ⟨g1, g2, g3, g4⟩ := hG
  obtain ⟨⟨h1, h1'⟩, h2, ⟨al, dn0, fi, W0, h3⟩, h4, h5⟩ := hS
  refine E_work ⟨al, dn0, fi, h3⟩ h4 (by omega) (by omega) h5 g2 (by omega) (by omega) (fun h' fi' W' a b c hO => hq h' W' ⟨⟨?_, ?_⟩, ⟨?_, ⟨fi', a⟩, ?_⟩, ?_, b⟩ hO)
  · rw [hO _ (by omega)]; exact h1
  · rw [hO _ (by omega)]; exact h1'
  · unfold LwO; rw [hO _ (by omega)]; exact h2
  · exact h4.kept (fun q _ _ => hO q (by omega))
  · exact h5.kept (fun q _ _ => hO q (by omega))
theorem Z_broken {law : Nat} {s : Int32} (hG : smG t x f sE G S L R ac) (hS : smS h t x Tm f sE G S L R ac dn W) (hlaw : law < 7) (hq : ∀ h', smS h' t x Tm f sE G S L R ac dn W → sOff h h' (t + 5) (t + 8) → Q (some (.int (if bkE law (bt dn) G ac L R f 12 0 s = true then 1 else 0))) n h') : Ok 25 [.ref (t + 8), .int (nI law), .ref x, .int 0, .int s] n h Q := by
  obtain ⟨g1, g2, g3, g4⟩ := hG
  obtain ⟨⟨h1, h1'⟩, s1, s2, s3⟩ := hS
  refine L_broken (k := 0) s1 ⟨by omega, by omega, g1, by omega, by omega⟩ s2 g2 (by omega) g4 hlaw (fun r _ => ev_le _ _) (s3 0 g4) (fun h' hL hO => ?_)
  exact hq h' ⟨⟨by rw [hO _ (by omega)]; exact h1, by rw [hO _ (by omega)]; exact h1'⟩, hL, s2.kept (fun q _ _ => hO q (by omega)), s3⟩ hO
def brM (bk : Nat → Nat → Bool) (some' : Int32) : Int32 := mB 7 (fun law => bt some' law && anyB 24 (bk law))
theorem anyB_mono {p : Nat → Bool} {i m : Nat} (h : i ≤ m) (h2 : anyB i p = true) : anyB m p = true := by
  rw [anyB_iff] at h2 ⊢
  obtain ⟨q, a, b⟩ := h2
  exact ⟨q, by omega, b⟩
set_option maxRecDepth 100000 in
set_option maxHeartbeats 400000 in
theorem Z_brokenOnes {sm : Int32} (hG : smG t x f sE G S L R ac) (hS : smS h t x Tm f sE G S L R ac dn W) (hq : ∀ h', smS h' t x Tm f sE G S L R ac dn W → sOff h h' (t + 5) (t + 8) → Q (some (.int (brM (fun law i => bkE law (bt dn) G ac L R f 12 0 (Tm i)) sm))) n h') : Ok 51 [.ref t, .ref x, .int sm] n h Q := by
  generalize hbk : (fun (law i : Nat) => bkE law (bt dn) G ac L R f 12 0 (Tm i)) = bk at hq
  have hbk' : ∀ law i, bkE law (bt dn) G ac L R f 12 0 (Tm i) = bk law i := fun law i => by rw [← hbk]
  refine ok_of kMX7_brokenOnes kCX7_brokenOnes (Nat.le_of_ble_eq_true rfl) (fun z => ?_)
  change A z _ _ 0 0 _ 0 [some (.ref t), some (.ref x), some (.int sm), none, none, none, none] [] _
  refine go_ok okF1 (C := cdX7_brokenOnes) (by rfl) [5] 30 (by exact Nat.le_of_ble_eq_true rfl) ?_
  simp (maxSteps := 2000000) only [go, stp, inS, ↓reduceIte, Bool.false_eq_true, Nat.reduceLT, Nat.reduceEqDiff, Nat.reduceAdd, ldI, ldL, ldA, st1, st2, okS, List.getElem?_cons_zero, List.getElem?_cons_succ, List.length_cons, List.length_nil, List.set_cons_zero, List.set_cons_succ, callP, callF, popN, ct, Value.category, cI, List.getD_cons_zero, List.getD_cons_succ, and_self, and_true, true_and, Nat.zero_le, Nat.reduceLeDiff, Nat.add_zero, Nat.zero_add, List.nil_append, List.cons_append, Option.toList_some, Option.toList_none, List.append_nil, hset_ss, true_or, or_true, eq_self, beq_self_eq_true, List.drop_succ_cons, List.drop_zero, swT, swL, hset_ap, not_true_eq_false, not_false_eq_true, true_implies, false_implies, implies_true, Int32.reduceLE, Int32.reduceLT, Int32.reduceAdd, Int32.reduceSub, Int32.reduceOfInt, Int32.reduceToNatClampNeg, i10, i01, Nat.add_left_cancel_iff, Nat.left_eq_add, Nat.add_eq_left, cdX7_brokenOnes, F1]
  have outer : ∀ m l (h' : aH) br o5 o6, l + m = 7 → (∀ q, q < 32 → bt br q = (decide (q < l) && (bt sm q && anyB 24 (bk q)))) → smS h' t x Tm f sE G S L R ac dn W → sOff h h' (t + 5) (t + 8) → A z 51 n 0 0 h' 5 [some (.ref t), some (.ref x), some (.int sm), some (.int br), some (.int (nI l)), o5, o6] [] Q := by
    intro m
    induction m with
    | zero =>
      intro l h' br o5 o6 hl hb hS' hO
      have : l = 7 := by omega
      subst this
      refine go_ok okF1 (C := cdX7_brokenOnes) (by rfl) [5] 30 (by exact Nat.le_of_ble_eq_true rfl) ?_
      simp (maxSteps := 2000000) only [go, stp, inS, ↓reduceIte, Bool.false_eq_true, Nat.reduceLT, Nat.reduceEqDiff, Nat.reduceAdd, ldI, ldL, ldA, st1, st2, okS, List.getElem?_cons_zero, List.getElem?_cons_succ, List.length_cons, List.length_nil, List.set_cons_zero, List.set_cons_succ, callP, callF, popN, ct, Value.category, cI, List.getD_cons_zero, List.getD_cons_succ, and_self, and_true, true_and, Nat.zero_le, Nat.reduceLeDiff, Nat.add_zero, Nat.zero_add, List.nil_append, List.cons_append, Option.toList_some, Option.toList_none, List.append_nil, hset_ss, true_or, or_true, eq_self, beq_self_eq_true, List.drop_succ_cons, List.drop_zero, swT, swL, hset_ap, not_true_eq_false, not_false_eq_true, true_implies, false_implies, implies_true, Int32.reduceLE, Int32.reduceLT, Int32.reduceAdd, Int32.reduceSub, Int32.reduceOfInt, Int32.reduceToNatClampNeg, i10, i01, Nat.add_left_cancel_iff, Nat.left_eq_add, Nat.add_eq_left, cdX7_brokenOnes, F1, (show (7 : Int32) ≤ nI 7 by decide)]
      have e : br = brM bk sm := b_ext fun i hi => by rw [hb i hi, brM, b_mB _ _ (by omega) i hi]
      rw [e]; exact hq h' hS' hO
    | succ m ih =>
      intro l h' br o5 o6 hl hb hS' hO
      have hlt : ¬ (7 : Int32) ≤ nI l := by rw [show (7 : Int32) = nI 7 from rfl, i_le (by omega) (by omega)]; omega
      have hbit : ∀ q, q < 32 → bt (sm &&& ((1 : Int32) <<< (nI l &&& 31))) q = (bt sm q && decide (q = l)) := fun q hq => by rw [b_and, b_pw l (by omega) q hq]
      refine go_ok okF1 (C := cdX7_brokenOnes) (by rfl) [5, 23] 30 (by exact Nat.le_of_ble_eq_true rfl) ?_
      simp (maxSteps := 2000000) only [go, stp, inS, ↓reduceIte, Bool.false_eq_true, Nat.reduceLT, Nat.reduceEqDiff, Nat.reduceAdd, ldI, ldL, ldA, st1, st2, okS, List.getElem?_cons_zero, List.getElem?_cons_succ, List.length_cons, List.length_nil, List.set_cons_zero, List.set_cons_succ, callP, callF, popN, ct, Value.category, cI, List.getD_cons_zero, List.getD_cons_succ, and_self, and_true, true_and, Nat.zero_le, Nat.reduceLeDiff, Nat.add_zero, Nat.zero_add, List.nil_append, List.cons_append, Option.toList_some, Option.toList_none, List.append_nil, hset_ss, true_or, or_true, eq_self, beq_self_eq_true, List.drop_succ_cons, List.drop_zero, swT, swL, hset_ap, not_true_eq_false, not_false_eq_true, true_implies, false_implies, implies_true, Int32.reduceLE, Int32.reduceLT, Int32.reduceAdd, Int32.reduceSub, Int32.reduceOfInt, Int32.reduceToNatClampNeg, i10, i01, Nat.add_left_cancel_iff, Nat.left_eq_add, Nat.add_eq_left, cdX7_brokenOnes, F1, hlt]
      have inner : ∀ m i (h' : aH) br, i + m = 24 → (∀ q, q < 32 → bt br q = (decide (q < l) && (bt sm q && anyB 24 (bk q)) || decide (q = l) && (bt sm q && anyB i (bk q)))) → smS h' t x Tm f sE G S L R ac dn W → sOff h h' (t + 5) (t + 8) → A z 51 n 0 0 h' 23 [some (.ref t), some (.ref x), some (.int sm), some (.int br), some (.int (nI l)), some (.int (sm &&& ((1 : Int32) <<< (nI l &&& 31)))), some (.int (nI i))] [] Q := by
        intro m
        induction m with
        | zero =>
          intro i h' br hi hb hS' hO
          have : i = 24 := by omega
          subst this
          refine go_ok okF1 (C := cdX7_brokenOnes) (by rfl) [5, 23] 30 (by exact Nat.le_of_ble_eq_true rfl) ?_
          simp (maxSteps := 2000000) only [go, stp, inS, ↓reduceIte, Bool.false_eq_true, Nat.reduceLT, Nat.reduceEqDiff, Nat.reduceAdd, ldI, ldL, ldA, st1, st2, okS, List.getElem?_cons_zero, List.getElem?_cons_succ, List.length_cons, List.length_nil, List.set_cons_zero, List.set_cons_succ, callP, callF, popN, ct, Value.category, cI, List.getD_cons_zero, List.getD_cons_succ, and_self, and_true, true_and, Nat.zero_le, Nat.reduceLeDiff, Nat.add_zero, Nat.zero_add, List.nil_append, List.cons_append, Option.toList_some, Option.toList_none, List.append_nil, hset_ss, true_or, or_true, eq_self, beq_self_eq_true, List.drop_succ_cons, List.drop_zero, swT, swL, hset_ap, not_true_eq_false, not_false_eq_true, true_implies, false_implies, implies_true, Int32.reduceLE, Int32.reduceLT, Int32.reduceAdd, Int32.reduceSub, Int32.reduceOfInt, Int32.reduceToNatClampNeg, i10, i01, Nat.add_left_cancel_iff, Nat.left_eq_add, Nat.add_eq_left, cdX7_brokenOnes, F1, (show (24 : Int32) ≤ nI 24 by decide), nI_1]
          refine ih (l + 1) h' br _ _ (by omega) (fun q hq => ?_) hS' hO
          rw [hb q hq]
          by_cases c : q = l
          · subst c; simp
          · by_cases c2 : q < l
            · simp [c, c2, show q < l + 1 by omega]
            · simp [c, c2, show ¬ q < l + 1 by omega]
        | succ m ih2 =>
          intro i h' br hi hb hS' hO
          have hlt2 : ¬ (24 : Int32) ≤ nI i := by rw [show (24 : Int32) = nI 24 from rfl, i_le (by omega) (by omega)]; omega
          have hz : (sm &&& ((1 : Int32) <<< (nI l &&& 31))) &&& (br ^^^ (-1)) = 0 ↔ (bt sm l && anyB i (bk l)) = bt sm l := by
            rw [b_zero]
            constructor
            · intro hh
              have := hh l (by omega)
              rw [b_and, hbit l (by omega), b_not _ (by omega), hb l (by omega)] at this
              simp at this
              cases h1 : bt sm l with
              | false => rfl
              | true => simpa using (this h1).2
            · intro hh q hq
              rw [b_and, hbit q hq, b_not _ hq, hb q hq]
              by_cases c : q = l
              · subst c; rw [hh]; cases bt sm q <;> simp
              · simp [c]
          refine go_ok okF1 (C := cdX7_brokenOnes) (by rfl) [5, 23] 30 (by exact Nat.le_of_ble_eq_true rfl) ?_
          simp (maxSteps := 2000000) only [go, stp, inS, ↓reduceIte, Bool.false_eq_true, Nat.reduceLT, Nat.reduceEqDiff, Nat.reduceAdd, ldI, ldL, ldA, st1, st2, okS, List.getElem?_cons_zero, List.getElem?_cons_succ, List.length_cons, List.length_nil, List.set_cons_zero, List.set_cons_succ, callP, callF, popN, ct, Value.category, cI, List.getD_cons_zero, List.getD_cons_succ, and_self, and_true, true_and, Nat.zero_le, Nat.reduceLeDiff, Nat.add_zero, Nat.zero_add, List.nil_append, List.cons_append, Option.toList_some, Option.toList_none, List.append_nil, hset_ss, true_or, or_true, eq_self, beq_self_eq_true, List.drop_succ_cons, List.drop_zero, swT, swL, hset_ap, not_true_eq_false, not_false_eq_true, true_implies, false_implies, implies_true, Int32.reduceLE, Int32.reduceLT, Int32.reduceAdd, Int32.reduceSub, Int32.reduceOfInt, Int32.reduceToNatClampNeg, i10, i01, Nat.add_left_cancel_iff, Nat.left_eq_add, Nat.add_eq_left, cdX7_brokenOnes, F1, hlt2, hS'.1.1, hS'.1.2, nI_1, (show h' (t + 8) = _ from hS'.2.1.1)]
          refine ⟨fun c => ?_, fun c => ?_⟩
          · have c := hz.mp c
            refine ih (l + 1) h' br _ _ (by omega) (fun q hq => ?_) hS' hO
            rw [hb q hq]
            by_cases c3 : q = l
            · subst c3
              cases h1 : bt sm q with
              | false => simp
              | true =>
                rw [h1] at c
                simp at c
                simp [c, anyB_mono (show i ≤ 24 by omega) c]
            · by_cases c2 : q < l
              · simp [c3, c2, show q < l + 1 by omega]
              · simp [c3, c2, show ¬ q < l + 1 by omega]
          · refine ⟨vp_in_nI (by omega) (by omega), ?_⟩
            rw [i_cl (show i < 2147483648 by omega)]
            refine Z_broken (law := l) hG hS' (by omega) (fun h2 hS2 hO2 => ?_)
            rw [hbk']
            have hb2 : ∀ v : Bool, v = bk l i → ∀ q, q < 32 → bt (br ||| (if v = true then sm &&& ((1 : Int32) <<< (nI l &&& 31)) else 0)) q = (decide (q < l) && (bt sm q && anyB 24 (bk q)) || decide (q = l) && (bt sm q && anyB (i + 1) (bk q))) := by
              intro v hv q hq
              rw [b_or, b_ite, hbit q hq, b_0, hb q hq, show anyB (i + 1) (bk q) = (anyB i (bk q) || bk q i) from rfl]
              by_cases c3 : q = l
              · subst c3; rw [← hv]; cases v <;> cases bt sm q <;> simp
              · cases v <;> simp [c3]
            cases hv : bk l i with
            | false =>
              refine go_ok okF1 (C := cdX7_brokenOnes) (by rfl) [5, 23] 30 (by exact Nat.le_of_ble_eq_true rfl) ?_
              simp (maxSteps := 2000000) only [go, stp, inS, ↓reduceIte, Bool.false_eq_true, Nat.reduceLT, Nat.reduceEqDiff, Nat.reduceAdd, ldI, ldL, ldA, st1, st2, okS, List.getElem?_cons_zero, List.getElem?_cons_succ, List.length_cons, List.length_nil, List.set_cons_zero, List.set_cons_succ, callP, callF, popN, ct, Value.category, cI, List.getD_cons_zero, List.getD_cons_succ, and_self, and_true, true_and, Nat.zero_le, Nat.reduceLeDiff, Nat.add_zero, Nat.zero_add, List.nil_append, List.cons_append, Option.toList_some, Option.toList_none, List.append_nil, hset_ss, true_or, or_true, eq_self, beq_self_eq_true, List.drop_succ_cons, List.drop_zero, swT, swL, hset_ap, not_true_eq_false, not_false_eq_true, true_implies, false_implies, implies_true, Int32.reduceLE, Int32.reduceLT, Int32.reduceAdd, Int32.reduceSub, Int32.reduceOfInt, Int32.reduceToNatClampNeg, i10, i01, Nat.add_left_cancel_iff, Nat.left_eq_add, Nat.add_eq_left, cdX7_brokenOnes, F1, nI_1]
              have := ih2 (i + 1) h2 (br ||| 0) (by omega) (fun q hq => by have := hb2 false hv.symm q hq; simpa using this) hS2 (hO.tr hO2)
              exact this
            | true =>
              refine go_ok okF1 (C := cdX7_brokenOnes) (by rfl) [5, 23] 30 (by exact Nat.le_of_ble_eq_true rfl) ?_
              simp (maxSteps := 2000000) only [go, stp, inS, ↓reduceIte, Bool.false_eq_true, Nat.reduceLT, Nat.reduceEqDiff, Nat.reduceAdd, ldI, ldL, ldA, st1, st2, okS, List.getElem?_cons_zero, List.getElem?_cons_succ, List.length_cons, List.length_nil, List.set_cons_zero, List.set_cons_succ, callP, callF, popN, ct, Value.category, cI, List.getD_cons_zero, List.getD_cons_succ, and_self, and_true, true_and, Nat.zero_le, Nat.reduceLeDiff, Nat.add_zero, Nat.zero_add, List.nil_append, List.cons_append, Option.toList_some, Option.toList_none, List.append_nil, hset_ss, true_or, or_true, eq_self, beq_self_eq_true, List.drop_succ_cons, List.drop_zero, swT, swL, hset_ap, not_true_eq_false, not_false_eq_true, true_implies, false_implies, implies_true, Int32.reduceLE, Int32.reduceLT, Int32.reduceAdd, Int32.reduceSub, Int32.reduceOfInt, Int32.reduceToNatClampNeg, i10, i01, Nat.add_left_cancel_iff, Nat.left_eq_add, Nat.add_eq_left, cdX7_brokenOnes, F1, nI_1]
              have := ih2 (i + 1) h2 (br ||| (sm &&& ((1 : Int32) <<< (nI l &&& 31)))) (by omega) (fun q hq => by have := hb2 true hv.symm q hq; simpa using this) hS2 (hO.tr hO2)
              exact this
      exact inner 24 0 h' br (by omega) (fun q hq => by rw [hb q hq]; simp [anyB]) hS' hO
  exact outer 7 0 h 0 _ _ (by omega) (fun q hq => by rw [b_0]; simp) hS sOff.rf
set_option maxRecDepth 100000 in
set_option maxHeartbeats 400000 in
theorem Z_quarrelsOf {sm dn : Int32} (hG : smG t x f sE G S L R ac) (hS : smP h t x Tm f sE G S L R ac) (hq : ∀ h' W', smS h' t x Tm f sE G S L R ac dn W' → sOff h h' (t + 5) (t + 8) → Q (some (.int (brM (fun law i => bkE law (bt dn) G ac L R f 12 0 (Tm i)) sm))) n h') : Ok 50 [.ref t, .ref x, .int dn, .int sm] n h Q := by
  refine ok_of kMX7_quarrelsOf kCX7_quarrelsOf (Nat.le_of_ble_eq_true rfl) (fun z => ?_)
  change A z _ _ 0 0 _ 0 [some (.ref t), some (.ref x), some (.int dn), some (.int sm)] [] _
  obtain ⟨al, dn0, fi, W0, hE⟩ := id hS.2.2.1
  have e1 := (show h (t + 5) = _ from hE.1)
  refine go_ok okF1 (C := cdX7_quarrelsOf) (by rfl) [] 30 (by exact Nat.le_of_ble_eq_true rfl) ?_
  simp (maxSteps := 2000000) only [go, stp, inS, ↓reduceIte, Bool.false_eq_true, Nat.reduceLT, Nat.reduceEqDiff, Nat.reduceAdd, ldI, ldL, ldA, st1, st2, okS, List.getElem?_cons_zero, List.getElem?_cons_succ, List.length_cons, List.length_nil, List.set_cons_zero, List.set_cons_succ, callP, callF, popN, ct, Value.category, cI, List.getD_cons_zero, List.getD_cons_succ, and_self, and_true, true_and, Nat.zero_le, Nat.reduceLeDiff, Nat.add_zero, Nat.zero_add, List.nil_append, List.cons_append, Option.toList_some, Option.toList_none, List.append_nil, hset_ss, true_or, or_true, eq_self, beq_self_eq_true, List.drop_succ_cons, List.drop_zero, swT, swL, hset_ap, not_true_eq_false, not_false_eq_true, true_implies, false_implies, implies_true, Int32.reduceLE, Int32.reduceLT, Int32.reduceAdd, Int32.reduceSub, Int32.reduceOfInt, Int32.reduceToNatClampNeg, i10, i01, Nat.add_left_cancel_iff, Nat.left_eq_add, Nat.add_eq_left, cdX7_quarrelsOf, F1, hS.1.1, e1]
  refine Z_work hG hS (fun h1 W' hS1 hO1 => ?_)
  refine go_ok okF1 (C := cdX7_quarrelsOf) (by rfl) [] 30 (by exact Nat.le_of_ble_eq_true rfl) ?_
  simp (maxSteps := 2000000) only [go, stp, inS, ↓reduceIte, Bool.false_eq_true, Nat.reduceLT, Nat.reduceEqDiff, Nat.reduceAdd, ldI, ldL, ldA, st1, st2, okS, List.getElem?_cons_zero, List.getElem?_cons_succ, List.length_cons, List.length_nil, List.set_cons_zero, List.set_cons_succ, callP, callF, popN, ct, Value.category, cI, List.getD_cons_zero, List.getD_cons_succ, and_self, and_true, true_and, Nat.zero_le, Nat.reduceLeDiff, Nat.add_zero, Nat.zero_add, List.nil_append, List.cons_append, Option.toList_some, Option.toList_none, List.append_nil, hset_ss, true_or, or_true, eq_self, beq_self_eq_true, List.drop_succ_cons, List.drop_zero, swT, swL, hset_ap, not_true_eq_false, not_false_eq_true, true_implies, false_implies, implies_true, Int32.reduceLE, Int32.reduceLT, Int32.reduceAdd, Int32.reduceSub, Int32.reduceOfInt, Int32.reduceToNatClampNeg, i10, i01, Nat.add_left_cancel_iff, Nat.left_eq_add, Nat.add_eq_left, cdX7_quarrelsOf, F1, hS1.1.1]
  refine Z_brokenOnes hG hS1 (fun h2 hS2 hO2 => ?_)
  refine go_ok okF1 (C := cdX7_quarrelsOf) (by rfl) [] 30 (by exact Nat.le_of_ble_eq_true rfl) ?_
  simp (maxSteps := 2000000) only [go, stp, inS, ↓reduceIte, Bool.false_eq_true, Nat.reduceLT, Nat.reduceEqDiff, Nat.reduceAdd, ldI, ldL, ldA, st1, st2, okS, List.getElem?_cons_zero, List.getElem?_cons_succ, List.length_cons, List.length_nil, List.set_cons_zero, List.set_cons_succ, callP, callF, popN, ct, Value.category, cI, List.getD_cons_zero, List.getD_cons_succ, and_self, and_true, true_and, Nat.zero_le, Nat.reduceLeDiff, Nat.add_zero, Nat.zero_add, List.nil_append, List.cons_append, Option.toList_some, Option.toList_none, List.append_nil, hset_ss, true_or, or_true, eq_self, beq_self_eq_true, List.drop_succ_cons, List.drop_zero, swT, swL, hset_ap, not_true_eq_false, not_false_eq_true, true_implies, false_implies, implies_true, Int32.reduceLE, Int32.reduceLT, Int32.reduceAdd, Int32.reduceSub, Int32.reduceOfInt, Int32.reduceToNatClampNeg, i10, i01, Nat.add_left_cancel_iff, Nat.left_eq_add, Nat.add_eq_left, cdX7_quarrelsOf, F1]
  exact hq h2 W' hS2 (hO1.tr hO2)
theorem Z_answer {s : Int32} (hG : smG t x f sE G S L R ac) (hS : smS h t x Tm f sE G S L R ac dn W) (hq : ∀ h', smS h' t x Tm f sE G S L R ac dn W → sOff h h' (t + 5) (t + 8) → Q (some (.int (anM (bt dn) f 12 (fun r => ev (bt dn) G ac L R f r 0) s))) n h') : Ok 16 [.ref (t + 5), .int (W 0), .int s] n h Q := by
  obtain ⟨g1, g2, g3, g4⟩ := hG
  obtain ⟨⟨h1, h1'⟩, s1, s2, s3⟩ := hS
  rw [s3 0 g4]
  refine L_answer s1 ⟨by omega, by omega, g1, by omega, by omega⟩ (fun h' hL hO => ?_)
  exact hq h' ⟨⟨by rw [hO _ (by omega)]; exact h1, by rw [hO _ (by omega)]; exact h1'⟩, hL, s2.kept (fun q _ _ => hO q (by omega)), s3⟩ hO
noncomputable def asB (d : Nat → Bool) (G : Nat → Int32) (ac : Nat) (L R f Tm : Nat → Int32) (mt : Int32) : Bool := anyB 24 (fun i => !(anM d f 12 (fun r => ev d G ac L R f r 0) (Tm i) == mt &&& Tm i))
set_option maxRecDepth 100000 in
set_option maxHeartbeats 400000 in
theorem Z_isAstray {mt : Int32} (hG : smG t x f sE G S L R ac) (hS : smS h t x Tm f sE G S L R ac dn W) (hq : ∀ h', smS h' t x Tm f sE G S L R ac dn W → sOff h h' (t + 5) (t + 8) → Q (some (.int (if asB (bt dn) G ac L R f Tm mt = true then 1 else 0))) n h') : Ok 53 [.ref t, .int mt] n h Q := by
  unfold asB at hq
  refine ok_of kMX7_isAstray kCX7_isAstray (Nat.le_of_ble_eq_true rfl) (fun z => ?_)
  change A z _ _ 0 0 _ 0 [some (.ref t), some (.int mt), none] [] _
  refine go_ok okF1 (C := cdX7_isAstray) (by rfl) [2] 30 (by exact Nat.le_of_ble_eq_true rfl) ?_
  simp (maxSteps := 2000000) only [go, stp, inS, ↓reduceIte, Bool.false_eq_true, Nat.reduceLT, Nat.reduceEqDiff, Nat.reduceAdd, ldI, ldL, ldA, st1, st2, okS, List.getElem?_cons_zero, List.getElem?_cons_succ, List.length_cons, List.length_nil, List.set_cons_zero, List.set_cons_succ, callP, callF, popN, ct, Value.category, cI, List.getD_cons_zero, List.getD_cons_succ, and_self, and_true, true_and, Nat.zero_le, Nat.reduceLeDiff, Nat.add_zero, Nat.zero_add, List.nil_append, List.cons_append, Option.toList_some, Option.toList_none, List.append_nil, hset_ss, true_or, or_true, eq_self, beq_self_eq_true, List.drop_succ_cons, List.drop_zero, swT, swL, hset_ap, not_true_eq_false, not_false_eq_true, true_implies, false_implies, implies_true, Int32.reduceLE, Int32.reduceLT, Int32.reduceAdd, Int32.reduceSub, Int32.reduceOfInt, Int32.reduceToNatClampNeg, i10, i01, Nat.add_left_cancel_iff, Nat.left_eq_add, Nat.add_eq_left, cdX7_isAstray, F1]
  have loop : ∀ m i (h' : aH), i + m = 24 → (∀ q, q < i → anM (bt dn) f 12 (fun r => ev (bt dn) G ac L R f r 0) (Tm q) = mt &&& Tm q) → smS h' t x Tm f sE G S L R ac dn W → sOff h h' (t + 5) (t + 8) → A z 53 n 0 0 h' 2 [some (.ref t), some (.int mt), some (.int (nI i))] [] Q := by
    intro m
    induction m with
    | zero =>
      intro i h' hi hn hS' hO
      have : i = 24 := by omega
      subst this
      refine go_ok okF1 (C := cdX7_isAstray) (by rfl) [2] 30 (by exact Nat.le_of_ble_eq_true rfl) ?_
      simp (maxSteps := 2000000) only [go, stp, inS, ↓reduceIte, Bool.false_eq_true, Nat.reduceLT, Nat.reduceEqDiff, Nat.reduceAdd, ldI, ldL, ldA, st1, st2, okS, List.getElem?_cons_zero, List.getElem?_cons_succ, List.length_cons, List.length_nil, List.set_cons_zero, List.set_cons_succ, callP, callF, popN, ct, Value.category, cI, List.getD_cons_zero, List.getD_cons_succ, and_self, and_true, true_and, Nat.zero_le, Nat.reduceLeDiff, Nat.add_zero, Nat.zero_add, List.nil_append, List.cons_append, Option.toList_some, Option.toList_none, List.append_nil, hset_ss, true_or, or_true, eq_self, beq_self_eq_true, List.drop_succ_cons, List.drop_zero, swT, swL, hset_ap, not_true_eq_false, not_false_eq_true, true_implies, false_implies, implies_true, Int32.reduceLE, Int32.reduceLT, Int32.reduceAdd, Int32.reduceSub, Int32.reduceOfInt, Int32.reduceToNatClampNeg, i10, i01, Nat.add_left_cancel_iff, Nat.left_eq_add, Nat.add_eq_left, cdX7_isAstray, F1, (show (24 : Int32) ≤ nI 24 by decide)]
      have hq := hq h' hS' hO
      rw [if_neg (fun c => by obtain ⟨q, c1, c2⟩ := anyB_iff.mp c; rw [hn q c1] at c2; simp at c2)] at hq
      exact hq
    | succ m ih =>
      intro i h' hi hn hS' hO
      have hlt2 : ¬ (24 : Int32) ≤ nI i := by rw [show (24 : Int32) = nI 24 from rfl, i_le (by omega) (by omega)]; omega
      obtain ⟨fi, hE⟩ := id hS'.2.1.2.1
      have e1 := (show h' (t + 5) = _ from hE.1)
      refine go_ok okF1 (C := cdX7_isAstray) (by rfl) [2] 30 (by exact Nat.le_of_ble_eq_true rfl) ?_
      simp (maxSteps := 2000000) only [go, stp, inS, ↓reduceIte, Bool.false_eq_true, Nat.reduceLT, Nat.reduceEqDiff, Nat.reduceAdd, ldI, ldL, ldA, st1, st2, okS, List.getElem?_cons_zero, List.getElem?_cons_succ, List.length_cons, List.length_nil, List.set_cons_zero, List.set_cons_succ, callP, callF, popN, ct, Value.category, cI, List.getD_cons_zero, List.getD_cons_succ, and_self, and_true, true_and, Nat.zero_le, Nat.reduceLeDiff, Nat.add_zero, Nat.zero_add, List.nil_append, List.cons_append, Option.toList_some, Option.toList_none, List.append_nil, hset_ss, true_or, or_true, eq_self, beq_self_eq_true, List.drop_succ_cons, List.drop_zero, swT, swL, hset_ap, not_true_eq_false, not_false_eq_true, true_implies, false_implies, implies_true, Int32.reduceLE, Int32.reduceLT, Int32.reduceAdd, Int32.reduceSub, Int32.reduceOfInt, Int32.reduceToNatClampNeg, i10, i01, Nat.add_left_cancel_iff, Nat.left_eq_add, Nat.add_eq_left, cdX7_isAstray, F1, hlt2, hS'.1.1, hS'.1.2, e1]
      refine E_verdictAt hE ?_
      rw [if_pos (by decide), show (0 : Int32).toNatClampNeg = 0 from rfl]
      refine go_ok okF1 (C := cdX7_isAstray) (by rfl) [2] 30 (by exact Nat.le_of_ble_eq_true rfl) ?_
      simp (maxSteps := 2000000) only [go, stp, inS, ↓reduceIte, Bool.false_eq_true, Nat.reduceLT, Nat.reduceEqDiff, Nat.reduceAdd, ldI, ldL, ldA, st1, st2, okS, List.getElem?_cons_zero, List.getElem?_cons_succ, List.length_cons, List.length_nil, List.set_cons_zero, List.set_cons_succ, callP, callF, popN, ct, Value.category, cI, List.getD_cons_zero, List.getD_cons_succ, and_self, and_true, true_and, Nat.zero_le, Nat.reduceLeDiff, Nat.add_zero, Nat.zero_add, List.nil_append, List.cons_append, Option.toList_some, Option.toList_none, List.append_nil, hset_ss, true_or, or_true, eq_self, beq_self_eq_true, List.drop_succ_cons, List.drop_zero, swT, swL, hset_ap, not_true_eq_false, not_false_eq_true, true_implies, false_implies, implies_true, Int32.reduceLE, Int32.reduceLT, Int32.reduceAdd, Int32.reduceSub, Int32.reduceOfInt, Int32.reduceToNatClampNeg, i10, i01, Nat.add_left_cancel_iff, Nat.left_eq_add, Nat.add_eq_left, cdX7_isAstray, F1, hS'.1.1, hS'.1.2, e1, i_cl (show i < 2147483648 by omega)]
      refine ⟨vp_in_nI (by omega) (by omega), Z_answer hG hS' (fun h2 hS2 hO2 => ?_)⟩
      refine go_ok okF1 (C := cdX7_isAstray) (by rfl) [2] 30 (by exact Nat.le_of_ble_eq_true rfl) ?_
      simp (maxSteps := 2000000) only [go, stp, inS, ↓reduceIte, Bool.false_eq_true, Nat.reduceLT, Nat.reduceEqDiff, Nat.reduceAdd, ldI, ldL, ldA, st1, st2, okS, List.getElem?_cons_zero, List.getElem?_cons_succ, List.length_cons, List.length_nil, List.set_cons_zero, List.set_cons_succ, callP, callF, popN, ct, Value.category, cI, List.getD_cons_zero, List.getD_cons_succ, and_self, and_true, true_and, Nat.zero_le, Nat.reduceLeDiff, Nat.add_zero, Nat.zero_add, List.nil_append, List.cons_append, Option.toList_some, Option.toList_none, List.append_nil, hset_ss, true_or, or_true, eq_self, beq_self_eq_true, List.drop_succ_cons, List.drop_zero, swT, swL, hset_ap, not_true_eq_false, not_false_eq_true, true_implies, false_implies, implies_true, Int32.reduceLE, Int32.reduceLT, Int32.reduceAdd, Int32.reduceSub, Int32.reduceOfInt, Int32.reduceToNatClampNeg, i10, i01, Nat.add_left_cancel_iff, Nat.left_eq_add, Nat.add_eq_left, cdX7_isAstray, F1, hS2.1.1, hS2.1.2, nI_1, i_cl (show i < 2147483648 by omega)]
      refine ⟨vp_in_nI (by omega) (by omega), fun c => ?_, fun c => ?_⟩
      · refine ih (i + 1) h2 (by omega) (fun q hq => ?_) hS2 (hO.tr hO2)
        by_cases hqi : q = i
        · subst hqi; exact c
        · exact hn q (by omega)
      · have hq := hq h2 hS2 (hO.tr hO2)
        rw [if_pos (anyB_iff.mpr ⟨i, by omega, by simpa using c⟩)] at hq
        exact hq
  exact loop 24 0 h (by omega) (fun q hq => absurd hq (by omega)) hS sOff.rf
noncomputable def blM (G : Nat → Int32) (ac : Nat) (L R f Tm : Nat → Int32) : Int32 := mB 8 (fun k => asB (bt ((1 : Int32) <<< (nI k &&& 31))) G ac L R f Tm (enc 12 (fun r => ev (bt 0) G ac L R f r 0) &&& 65535) && (brM (fun law i => bkE law (bt ((1 : Int32) <<< (nI k &&& 31))) G ac L R f 12 0 (Tm i)) (127 &&& (brM (fun law i => bkE law (bt 0) G ac L R f 12 0 (Tm i)) 127 ^^^ (-1))) == 0))
set_option maxRecDepth 100000 in
set_option maxHeartbeats 400000 in
theorem Z_unseen (hG : smG t x f sE G S L R ac) (hS : smP h t x Tm f sE G S L R ac) (hq : ∀ h' W' dn', smS h' t x Tm f sE G S L R ac dn' W' → sOff h h' (t + 5) (t + 8) → Q (some (.int (blM G ac L R f Tm))) n h') : Ok 52 [.ref t, .ref x] n h Q := by
  unfold blM at hq
  refine ok_of kMX7_unseenFaults kCX7_unseenFaults (Nat.le_of_ble_eq_true rfl) (fun z => ?_)
  change A z _ _ 0 0 _ 0 [some (.ref t), some (.ref x), none, none, none, none] [] _
  refine go_ok okF1 (C := cdX7_unseenFaults) (by rfl) [32] 30 (by exact Nat.le_of_ble_eq_true rfl) ?_
  simp (maxSteps := 2000000) only [go, stp, inS, ↓reduceIte, Bool.false_eq_true, Nat.reduceLT, Nat.reduceEqDiff, Nat.reduceAdd, ldI, ldL, ldA, st1, st2, okS, List.getElem?_cons_zero, List.getElem?_cons_succ, List.length_cons, List.length_nil, List.set_cons_zero, List.set_cons_succ, callP, callF, popN, ct, Value.category, cI, List.getD_cons_zero, List.getD_cons_succ, and_self, and_true, true_and, Nat.zero_le, Nat.reduceLeDiff, Nat.add_zero, Nat.zero_add, List.nil_append, List.cons_append, Option.toList_some, Option.toList_none, List.append_nil, hset_ss, true_or, or_true, eq_self, beq_self_eq_true, List.drop_succ_cons, List.drop_zero, swT, swL, hset_ap, not_true_eq_false, not_false_eq_true, true_implies, false_implies, implies_true, Int32.reduceLE, Int32.reduceLT, Int32.reduceAdd, Int32.reduceSub, Int32.reduceOfInt, Int32.reduceToNatClampNeg, i10, i01, Nat.add_left_cancel_iff, Nat.left_eq_add, Nat.add_eq_left, cdX7_unseenFaults, F1, hS.1.1]
  refine Z_quarrelsOf hG hS (fun h1 W1 hS1 hO1 => ?_)
  generalize hho : (127 &&& (brM (fun law i => bkE law (bt 0) G ac L R f 12 0 (Tm i)) 127 ^^^ (-1)) : Int32) = ho at hq ⊢
  obtain ⟨fi, hE⟩ := id hS1.2.1.2.1
  have e1 := (show h1 (t + 5) = _ from hE.1)
  refine go_ok okF1 (C := cdX7_unseenFaults) (by rfl) [32] 30 (by exact Nat.le_of_ble_eq_true rfl) ?_
  simp (maxSteps := 2000000) only [go, stp, inS, ↓reduceIte, Bool.false_eq_true, Nat.reduceLT, Nat.reduceEqDiff, Nat.reduceAdd, ldI, ldL, ldA, st1, st2, okS, List.getElem?_cons_zero, List.getElem?_cons_succ, List.length_cons, List.length_nil, List.set_cons_zero, List.set_cons_succ, callP, callF, popN, ct, Value.category, cI, List.getD_cons_zero, List.getD_cons_succ, and_self, and_true, true_and, Nat.zero_le, Nat.reduceLeDiff, Nat.add_zero, Nat.zero_add, List.nil_append, List.cons_append, Option.toList_some, Option.toList_none, List.append_nil, hset_ss, true_or, or_true, eq_self, beq_self_eq_true, List.drop_succ_cons, List.drop_zero, swT, swL, hset_ap, not_true_eq_false, not_false_eq_true, true_implies, false_implies, implies_true, Int32.reduceLE, Int32.reduceLT, Int32.reduceAdd, Int32.reduceSub, Int32.reduceOfInt, Int32.reduceToNatClampNeg, i10, i01, Nat.add_left_cancel_iff, Nat.left_eq_add, Nat.add_eq_left, cdX7_unseenFaults, F1, hS1.1.1, e1, hho]
  refine E_verdictAt hE ?_
  rw [if_pos (by decide), show (0 : Int32).toNatClampNeg = 0 from rfl, hS1.2.2.2 0 hG.2.2.2]
  generalize hmt : (enc 12 (fun r => ev (bt 0) G ac L R f r 0) &&& 65535 : Int32) = mt at hq ⊢
  generalize hP : (fun k => asB (bt ((1 : Int32) <<< (nI k &&& 31))) G ac L R f Tm mt && (brM (fun law i => bkE law (bt ((1 : Int32) <<< (nI k &&& 31))) G ac L R f 12 0 (Tm i)) ho == 0)) = P at hq
  refine go_ok okF1 (C := cdX7_unseenFaults) (by rfl) [32] 30 (by exact Nat.le_of_ble_eq_true rfl) ?_
  simp (maxSteps := 2000000) only [go, stp, inS, ↓reduceIte, Bool.false_eq_true, Nat.reduceLT, Nat.reduceEqDiff, Nat.reduceAdd, ldI, ldL, ldA, st1, st2, okS, List.getElem?_cons_zero, List.getElem?_cons_succ, List.length_cons, List.length_nil, List.set_cons_zero, List.set_cons_succ, callP, callF, popN, ct, Value.category, cI, List.getD_cons_zero, List.getD_cons_succ, and_self, and_true, true_and, Nat.zero_le, Nat.reduceLeDiff, Nat.add_zero, Nat.zero_add, List.nil_append, List.cons_append, Option.toList_some, Option.toList_none, List.append_nil, hset_ss, true_or, or_true, eq_self, beq_self_eq_true, List.drop_succ_cons, List.drop_zero, swT, swL, hset_ap, not_true_eq_false, not_false_eq_true, true_implies, false_implies, implies_true, Int32.reduceLE, Int32.reduceLT, Int32.reduceAdd, Int32.reduceSub, Int32.reduceOfInt, Int32.reduceToNatClampNeg, i10, i01, Nat.add_left_cancel_iff, Nat.left_eq_add, Nat.add_eq_left, cdX7_unseenFaults, F1, hmt]
  have loop : ∀ m i (h' : aH) un, i + m = 8 → (∀ q, q < 32 → bt un q = (decide (q < i) && P q)) → (∃ W' dn', smS h' t x Tm f sE G S L R ac dn' W') → sOff h h' (t + 5) (t + 8) → A z 52 n 0 0 h' 32 [some (.ref t), some (.ref x), some (.int ho), some (.int mt), some (.int un), some (.int (nI i))] [] Q := by
    intro m
    induction m with
    | zero =>
      intro i h' un hi hu hS' hO
      have : i = 8 := by omega
      subst this
      obtain ⟨W', dn', hS'⟩ := hS'
      refine go_ok okF1 (C := cdX7_unseenFaults) (by rfl) [32] 30 (by exact Nat.le_of_ble_eq_true rfl) ?_
      simp (maxSteps := 2000000) only [go, stp, inS, ↓reduceIte, Bool.false_eq_true, Nat.reduceLT, Nat.reduceEqDiff, Nat.reduceAdd, ldI, ldL, ldA, st1, st2, okS, List.getElem?_cons_zero, List.getElem?_cons_succ, List.length_cons, List.length_nil, List.set_cons_zero, List.set_cons_succ, callP, callF, popN, ct, Value.category, cI, List.getD_cons_zero, List.getD_cons_succ, and_self, and_true, true_and, Nat.zero_le, Nat.reduceLeDiff, Nat.add_zero, Nat.zero_add, List.nil_append, List.cons_append, Option.toList_some, Option.toList_none, List.append_nil, hset_ss, true_or, or_true, eq_self, beq_self_eq_true, List.drop_succ_cons, List.drop_zero, swT, swL, hset_ap, not_true_eq_false, not_false_eq_true, true_implies, false_implies, implies_true, Int32.reduceLE, Int32.reduceLT, Int32.reduceAdd, Int32.reduceSub, Int32.reduceOfInt, Int32.reduceToNatClampNeg, i10, i01, Nat.add_left_cancel_iff, Nat.left_eq_add, Nat.add_eq_left, cdX7_unseenFaults, F1, (show (8 : Int32) ≤ nI 8 by decide)]
      have e : un = mB 8 P := b_ext fun q hq => by rw [hu q hq, b_mB _ _ (by omega) q hq]
      rw [e]; exact hq h' W' dn' hS' hO
    | succ m ih =>
      intro i h' un hi hu hS' hO
      obtain ⟨W', dn', hS'⟩ := hS'
      have hlt2 : ¬ (8 : Int32) ≤ nI i := by rw [show (8 : Int32) = nI 8 from rfl, i_le (by omega) (by omega)]; omega
      obtain ⟨fi, hE⟩ := id hS'.2.1.2.1
      have e1 := (show h' (t + 5) = _ from hE.1)
      refine go_ok okF1 (C := cdX7_unseenFaults) (by rfl) [32] 30 (by exact Nat.le_of_ble_eq_true rfl) ?_
      simp (maxSteps := 2000000) only [go, stp, inS, ↓reduceIte, Bool.false_eq_true, Nat.reduceLT, Nat.reduceEqDiff, Nat.reduceAdd, ldI, ldL, ldA, st1, st2, okS, List.getElem?_cons_zero, List.getElem?_cons_succ, List.length_cons, List.length_nil, List.set_cons_zero, List.set_cons_succ, callP, callF, popN, ct, Value.category, cI, List.getD_cons_zero, List.getD_cons_succ, and_self, and_true, true_and, Nat.zero_le, Nat.reduceLeDiff, Nat.add_zero, Nat.zero_add, List.nil_append, List.cons_append, Option.toList_some, Option.toList_none, List.append_nil, hset_ss, true_or, or_true, eq_self, beq_self_eq_true, List.drop_succ_cons, List.drop_zero, swT, swL, hset_ap, not_true_eq_false, not_false_eq_true, true_implies, false_implies, implies_true, Int32.reduceLE, Int32.reduceLT, Int32.reduceAdd, Int32.reduceSub, Int32.reduceOfInt, Int32.reduceToNatClampNeg, i10, i01, Nat.add_left_cancel_iff, Nat.left_eq_add, Nat.add_eq_left, cdX7_unseenFaults, F1, hlt2, hS'.1.1, e1]
      refine Z_work hG hS'.toE (fun h2 W2 hS2 hO2 => ?_)
      refine go_ok okF1 (C := cdX7_unseenFaults) (by rfl) [32] 30 (by exact Nat.le_of_ble_eq_true rfl) ?_
      simp (maxSteps := 2000000) only [go, stp, inS, ↓reduceIte, Bool.false_eq_true, Nat.reduceLT, Nat.reduceEqDiff, Nat.reduceAdd, ldI, ldL, ldA, st1, st2, okS, List.getElem?_cons_zero, List.getElem?_cons_succ, List.length_cons, List.length_nil, List.set_cons_zero, List.set_cons_succ, callP, callF, popN, ct, Value.category, cI, List.getD_cons_zero, List.getD_cons_succ, and_self, and_true, true_and, Nat.zero_le, Nat.reduceLeDiff, Nat.add_zero, Nat.zero_add, List.nil_append, List.cons_append, Option.toList_some, Option.toList_none, List.append_nil, hset_ss, true_or, or_true, eq_self, beq_self_eq_true, List.drop_succ_cons, List.drop_zero, swT, swL, hset_ap, not_true_eq_false, not_false_eq_true, true_implies, false_implies, implies_true, Int32.reduceLE, Int32.reduceLT, Int32.reduceAdd, Int32.reduceSub, Int32.reduceOfInt, Int32.reduceToNatClampNeg, i10, i01, Nat.add_left_cancel_iff, Nat.left_eq_add, Nat.add_eq_left, cdX7_unseenFaults, F1, hS2.1.1]
      refine Z_isAstray hG hS2 (fun h3 hS3 hO3 => ?_)
      have hPi : P i = (asB (bt ((1 : Int32) <<< (nI i &&& 31))) G ac L R f Tm mt && (brM (fun law q => bkE law (bt ((1 : Int32) <<< (nI i &&& 31))) G ac L R f 12 0 (Tm q)) ho == 0)) := by rw [← hP]
      have skip : P i = false → ∀ q, q < 32 → bt un q = (decide (q < i + 1) && P q) := fun hp q hq => by
        rw [hu q hq]
        by_cases c : q = i
        · subst c; simp [hp]
        · by_cases c2 : q < i
          · simp [c2, show q < i + 1 by omega]
          · simp [c2, show ¬ q < i + 1 by omega]
      refine go_ok okF1 (C := cdX7_unseenFaults) (by rfl) [32] 30 (by exact Nat.le_of_ble_eq_true rfl) ?_
      simp (maxSteps := 2000000) only [go, stp, inS, ↓reduceIte, Bool.false_eq_true, Nat.reduceLT, Nat.reduceEqDiff, Nat.reduceAdd, ldI, ldL, ldA, st1, st2, okS, List.getElem?_cons_zero, List.getElem?_cons_succ, List.length_cons, List.length_nil, List.set_cons_zero, List.set_cons_succ, callP, callF, popN, ct, Value.category, cI, List.getD_cons_zero, List.getD_cons_succ, and_self, and_true, true_and, Nat.zero_le, Nat.reduceLeDiff, Nat.add_zero, Nat.zero_add, List.nil_append, List.cons_append, Option.toList_some, Option.toList_none, List.append_nil, hset_ss, true_or, or_true, eq_self, beq_self_eq_true, List.drop_succ_cons, List.drop_zero, swT, swL, hset_ap, not_true_eq_false, not_false_eq_true, true_implies, false_implies, implies_true, Int32.reduceLE, Int32.reduceLT, Int32.reduceAdd, Int32.reduceSub, Int32.reduceOfInt, Int32.reduceToNatClampNeg, i10, i01, Nat.add_left_cancel_iff, Nat.left_eq_add, Nat.add_eq_left, cdX7_unseenFaults, F1, hS3.1.1, ib0, nI_1]
      refine ⟨fun c => ?_, fun c => ?_⟩
      · exact ih (i + 1) h3 un (by omega) (skip (by rw [hPi]; simp [c])) ⟨_, _, hS3⟩ ((hO.tr hO2).tr hO3)
      · have c : asB (bt ((1 : Int32) <<< (nI i &&& 31))) G ac L R f Tm mt = true := by simpa using c
        refine Z_brokenOnes hG hS3 (fun h4 hS4 hO4 => ?_)
        refine go_ok okF1 (C := cdX7_unseenFaults) (by rfl) [32] 30 (by exact Nat.le_of_ble_eq_true rfl) ?_
        simp (maxSteps := 2000000) only [go, stp, inS, ↓reduceIte, Bool.false_eq_true, Nat.reduceLT, Nat.reduceEqDiff, Nat.reduceAdd, ldI, ldL, ldA, st1, st2, okS, List.getElem?_cons_zero, List.getElem?_cons_succ, List.length_cons, List.length_nil, List.set_cons_zero, List.set_cons_succ, callP, callF, popN, ct, Value.category, cI, List.getD_cons_zero, List.getD_cons_succ, and_self, and_true, true_and, Nat.zero_le, Nat.reduceLeDiff, Nat.add_zero, Nat.zero_add, List.nil_append, List.cons_append, Option.toList_some, Option.toList_none, List.append_nil, hset_ss, true_or, or_true, eq_self, beq_self_eq_true, List.drop_succ_cons, List.drop_zero, swT, swL, hset_ap, not_true_eq_false, not_false_eq_true, true_implies, false_implies, implies_true, Int32.reduceLE, Int32.reduceLT, Int32.reduceAdd, Int32.reduceSub, Int32.reduceOfInt, Int32.reduceToNatClampNeg, i10, i01, Nat.add_left_cancel_iff, Nat.left_eq_add, Nat.add_eq_left, cdX7_unseenFaults, F1, nI_1]
        refine ⟨fun c5 => ?_, fun c5 => ?_⟩
        · exact ih (i + 1) h4 un (by omega) (skip (by rw [hPi]; simp [c5])) ⟨_, _, hS4⟩ (((hO.tr hO2).tr hO3).tr hO4)
        · refine ih (i + 1) h4 _ (by omega) (fun q hq => ?_) ⟨_, _, hS4⟩ (((hO.tr hO2).tr hO3).tr hO4)
          have hpt : P i = true := by rw [hPi, c]; simp [c5]
          rw [b_or, hu q hq, b_pw i (by omega) q hq]
          by_cases c6 : q = i
          · subst c6; simp [hpt]
          · by_cases c2 : q < i
            · simp [c6, c2, show q < i + 1 by omega]
            · simp [c6, c2, show ¬ q < i + 1 by omega]
  exact loop 8 0 h1 0 (by omega) (fun q hq => by rw [b_0]; simp) ⟨_, _, hS1⟩ hO1
end SM
