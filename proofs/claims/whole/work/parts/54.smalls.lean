
/-! GrownAsks$Smalls -/
def SmO (h : aH) (t : Nat) (Tm : Nat → Int32) : Prop := h t = some (.inl (7, [.ref (t + 2), .ref (t + 5), .ref (t + 8), .ref (t + 1)])) ∧ h (t + 1) = some (.inr (24, .inl Tm))
def smE (h : aH) (t x : Nat) (Tm f sE G S L R : Nat → Int32) (ac : Nat) : Prop := SmO h t Tm ∧ LwO h (t + 8) (t + 5) (t + 2) ∧ (∃ al dn fi W, EnAt h (t + 5) (t + 2) al dn fi W) ∧ TbAt h (t + 2) 12 f sE 12 ∧ TxW h x G S L R ac
def smS (h : aH) (t x : Nat) (Tm f sE G S L R : Nat → Int32) (ac : Nat) (dn : Int32) (W : Nat → Int32) : Prop := SmO h t Tm ∧ cuS h (t + 8) (t + 5) (t + 2) x 12 f sE 12 dn W G S L R ac
def smG (t x : Nat) (f sE G S L R : Nat → Int32) (ac : Nat) : Prop := SEok f sE 12 ∧ txOk G S L R ac ∧ (x + 6 ≤ t ∨ t + 9 ≤ x) ∧ 0 < ac
section SM
variable {n : Nat} {h : aH} {Q : aQ} {t x : Nat} {Tm f sE G S L R W : Nat → Int32} {ac : Nat} {dn : Int32}
theorem smS.toE (hS : smS h t x Tm f sE G S L R ac dn W) : smE h t x Tm f sE G S L R ac := by
  obtain ⟨h1, ⟨a, ⟨fi, b⟩, c⟩, d, e⟩ := hS
  exact ⟨h1, a, ⟨_, _, fi, W, b⟩, c, d⟩
theorem Z_work {dn : Int32} (hG : smG t x f sE G S L R ac) (hS : smE h t x Tm f sE G S L R ac) (hq : ∀ h' W', smS h' t x Tm f sE G S L R ac dn W' → sOff h h' (t + 5) (t + 8) → Q none n h') : Ok 6 [.ref (t + 5), .ref x, .int dn] n h Q := by
  obtain ⟨g1, g2, g3, g4⟩ := hG
  obtain ⟨⟨h1, h1'⟩, h2, ⟨al, dn0, fi, W0, h3⟩, h4, h5⟩ := hS
  refine E_work ⟨al, dn0, fi, h3⟩ h4 (by omega) (by omega) h5 g2 (by omega) (by omega) (fun h' fi' W' a b c hO => hq h' W' ⟨⟨?_, ?_⟩, ⟨?_, ⟨fi', a⟩, ?_⟩, ?_, b⟩ hO)
  · rw [hO _ (by omega)]; exact h1
  · rw [hO _ (by omega)]; exact h1'
  · unfold LwO; rw [hO _ (by omega)]; exact h2
  · exact h4.kept (fun q _ _ => hO q (by omega))
  · exact h5.kept (fun q _ _ => hO q (by omega))
theorem Z_broken {law : Nat} {s : Int32} (hG : smG t x f sE G S L R ac) (hS : smS h t x Tm f sE G S L R ac dn W) (hlaw : law < 7) (hq : ∀ h', smS h' t x Tm f sE G S L R ac dn W → sOff h h' (t + 5) (t + 8) → Q (some (.int (if bkE law (bt dn) G ac L R f 12 0 s = true then 1 else 0))) n h') : Ok 25 [.ref (t + 8), .int (nI law), .ref x, .int 0, .int s] n h Q := by
  obtain ⟨g1, g2, g3, g4⟩ := hG
  obtain ⟨⟨h1, h1'⟩, s1, s2, s3⟩ := hS
  refine L_broken (k := 0) s1 ⟨by omega, by omega, g1, by omega, by omega⟩ s2 g2 (by omega) g4 hlaw (fun r _ => ev_le _ _) (s3 0 g4) (fun h' hL hO => ?_)
  exact hq h' ⟨⟨by rw [hO _ (by omega)]; exact h1, by rw [hO _ (by omega)]; exact h1'⟩, hL, s2.kept (fun q _ _ => hO q (by omega)), s3⟩ hO
def brM (bk : Nat → Nat → Bool) (some' : Int32) : Int32 := mB 7 (fun law => bt some' law && anyB 24 (bk law))
theorem anyB_mono {p : Nat → Bool} {i m : Nat} (h : i ≤ m) (h2 : anyB i p = true) : anyB m p = true := by
  rw [anyB_iff] at h2 ⊢
  obtain ⟨q, a, b⟩ := h2
  exact ⟨q, by omega, b⟩
set_option maxRecDepth 100000 in
set_option maxHeartbeats 400000 in
theorem Z_brokenOnes {sm : Int32} (hG : smG t x f sE G S L R ac) (hS : smS h t x Tm f sE G S L R ac dn W) (hq : ∀ h', smS h' t x Tm f sE G S L R ac dn W → sOff h h' (t + 5) (t + 8) → Q (some (.int (brM (fun law i => bkE law (bt dn) G ac L R f 12 0 (Tm i)) sm))) n h') : Ok 51 [.ref t, .ref x, .int sm] n h Q := by
  generalize hbk : (fun (law i : Nat) => bkE law (bt dn) G ac L R f 12 0 (Tm i)) = bk at hq
  have hbk' : ∀ law i, bkE law (bt dn) G ac L R f 12 0 (Tm i) = bk law i := fun law i => by rw [← hbk]
  refine ok_of kMX7_brokenOnes kCX7_brokenOnes (Nat.le_of_ble_eq_true rfl) (fun z => ?_)
  change A z _ _ 0 0 _ 0 [some (.ref t), some (.ref x), some (.int sm), none, none, none, none] [] _
  refine go_ok okF1 (C := cdX7_brokenOnes) (by rfl) [5] 30 (by exact Nat.le_of_ble_eq_true rfl) ?_
  simp (maxSteps := 2000000) only [go, stp, inS, ↓reduceIte, Bool.false_eq_true, Nat.reduceLT, Nat.reduceEqDiff, Nat.reduceAdd, ldI, ldL, ldA, st1, st2, okS, List.getElem?_cons_zero, List.getElem?_cons_succ, List.length_cons, List.length_nil, List.set_cons_zero, List.set_cons_succ, callP, callF, popN, ct, Value.category, cI, List.getD_cons_zero, List.getD_cons_succ, and_self, and_true, true_and, Nat.zero_le, Nat.reduceLeDiff, Nat.add_zero, Nat.zero_add, List.nil_append, List.cons_append, Option.toList_some, Option.toList_none, List.append_nil, hset_ss, true_or, or_true, eq_self, beq_self_eq_true, List.drop_succ_cons, List.drop_zero, swT, swL, hset_ap, not_true_eq_false, not_false_eq_true, true_implies, false_implies, implies_true, Int32.reduceLE, Int32.reduceLT, Int32.reduceAdd, Int32.reduceSub, Int32.reduceOfInt, Int32.reduceToNatClampNeg, i10, i01, Nat.add_left_cancel_iff, Nat.left_eq_add, Nat.add_eq_left, cdX7_brokenOnes, F1]
  have outer : ∀ m l (h' : aH) br o5 o6, l + m = 7 → (∀ q, q < 32 → bt br q = (decide (q < l) && (bt sm q && anyB 24 (bk q)))) → smS h' t x Tm f sE G S L R ac dn W → sOff h h' (t + 5) (t + 8) → A z 51 n 0 0 h' 5 [some (.ref t), some (.ref x), some (.int sm), some (.int br), some (.int (nI l)), o5, o6] [] Q := by
    intro m
    induction m with
    | zero =>
      intro l h' br o5 o6 hl hb hS' hO
      have : l = 7 := by omega
      subst this
      refine go_ok okF1 (C := cdX7_brokenOnes) (by rfl) [5] 30 (by exact Nat.le_of_ble_eq_true rfl) ?_
      simp (maxSteps := 2000000) only [go, stp, inS, ↓reduceIte, Bool.false_eq_true, Nat.reduceLT, Nat.reduceEqDiff, Nat.reduceAdd, ldI, ldL, ldA, st1, st2, okS, List.getElem?_cons_zero, List.getElem?_cons_succ, List.length_cons, List.length_nil, List.set_cons_zero, List.set_cons_succ, callP, callF, popN, ct, Value.category, cI, List.getD_cons_zero, List.getD_cons_succ, and_self, and_true, true_and, Nat.zero_le, Nat.reduceLeDiff, Nat.add_zero, Nat.zero_add, List.nil_append, List.cons_append, Option.toList_some, Option.toList_none, List.append_nil, hset_ss, true_or, or_true, eq_self, beq_self_eq_true, List.drop_succ_cons, List.drop_zero, swT, swL, hset_ap, not_true_eq_false, not_false_eq_true, true_implies, false_implies, implies_true, Int32.reduceLE, Int32.reduceLT, Int32.reduceAdd, Int32.reduceSub, Int32.reduceOfInt, Int32.reduceToNatClampNeg, i10, i01, Nat.add_left_cancel_iff, Nat.left_eq_add, Nat.add_eq_left, cdX7_brokenOnes, F1, (show (7 : Int32) ≤ nI 7 by decide)]
      have e : br = brM bk sm := b_ext fun i hi => by rw [hb i hi, brM, b_mB _ _ (by omega) i hi]
      rw [e]; exact hq h' hS' hO
    | succ m ih =>
      intro l h' br o5 o6 hl hb hS' hO
      have hlt : ¬ (7 : Int32) ≤ nI l := by rw [show (7 : Int32) = nI 7 from rfl, i_le (by omega) (by omega)]; omega
      have hbit : ∀ q, q < 32 → bt (sm &&& ((1 : Int32) <<< (nI l &&& 31))) q = (bt sm q && decide (q = l)) := fun q hq => by rw [b_and, b_pw l (by omega) q hq]
      refine go_ok okF1 (C := cdX7_brokenOnes) (by rfl) [5, 23] 30 (by exact Nat.le_of_ble_eq_true rfl) ?_
      simp (maxSteps := 2000000) only [go, stp, inS, ↓reduceIte, Bool.false_eq_true, Nat.reduceLT, Nat.reduceEqDiff, Nat.reduceAdd, ldI, ldL, ldA, st1, st2, okS, List.getElem?_cons_zero, List.getElem?_cons_succ, List.length_cons, List.length_nil, List.set_cons_zero, List.set_cons_succ, callP, callF, popN, ct, Value.category, cI, List.getD_cons_zero, List.getD_cons_succ, and_self, and_true, true_and, Nat.zero_le, Nat.reduceLeDiff, Nat.add_zero, Nat.zero_add, List.nil_append, List.cons_append, Option.toList_some, Option.toList_none, List.append_nil, hset_ss, true_or, or_true, eq_self, beq_self_eq_true, List.drop_succ_cons, List.drop_zero, swT, swL, hset_ap, not_true_eq_false, not_false_eq_true, true_implies, false_implies, implies_true, Int32.reduceLE, Int32.reduceLT, Int32.reduceAdd, Int32.reduceSub, Int32.reduceOfInt, Int32.reduceToNatClampNeg, i10, i01, Nat.add_left_cancel_iff, Nat.left_eq_add, Nat.add_eq_left, cdX7_brokenOnes, F1, hlt]
      have inner : ∀ m i (h' : aH) br, i + m = 24 → (∀ q, q < 32 → bt br q = (decide (q < l) && (bt sm q && anyB 24 (bk q)) || decide (q = l) && (bt sm q && anyB i (bk q)))) → smS h' t x Tm f sE G S L R ac dn W → sOff h h' (t + 5) (t + 8) → A z 51 n 0 0 h' 23 [some (.ref t), some (.ref x), some (.int sm), some (.int br), some (.int (nI l)), some (.int (sm &&& ((1 : Int32) <<< (nI l &&& 31)))), some (.int (nI i))] [] Q := by
        intro m
        induction m with
        | zero =>
          intro i h' br hi hb hS' hO
          have : i = 24 := by omega
          subst this
          refine go_ok okF1 (C := cdX7_brokenOnes) (by rfl) [5, 23] 30 (by exact Nat.le_of_ble_eq_true rfl) ?_
          simp (maxSteps := 2000000) only [go, stp, inS, ↓reduceIte, Bool.false_eq_true, Nat.reduceLT, Nat.reduceEqDiff, Nat.reduceAdd, ldI, ldL, ldA, st1, st2, okS, List.getElem?_cons_zero, List.getElem?_cons_succ, List.length_cons, List.length_nil, List.set_cons_zero, List.set_cons_succ, callP, callF, popN, ct, Value.category, cI, List.getD_cons_zero, List.getD_cons_succ, and_self, and_true, true_and, Nat.zero_le, Nat.reduceLeDiff, Nat.add_zero, Nat.zero_add, List.nil_append, List.cons_append, Option.toList_some, Option.toList_none, List.append_nil, hset_ss, true_or, or_true, eq_self, beq_self_eq_true, List.drop_succ_cons, List.drop_zero, swT, swL, hset_ap, not_true_eq_false, not_false_eq_true, true_implies, false_implies, implies_true, Int32.reduceLE, Int32.reduceLT, Int32.reduceAdd, Int32.reduceSub, Int32.reduceOfInt, Int32.reduceToNatClampNeg, i10, i01, Nat.add_left_cancel_iff, Nat.left_eq_add, Nat.add_eq_left, cdX7_brokenOnes, F1, (show (24 : Int32) ≤ nI 24 by decide), nI_1]
          refine ih (l + 1) h' br _ _ (by omega) (fun q hq => ?_) hS' hO
          rw [hb q hq]
          by_cases c : q = l
          · subst c; simp
          · by_cases c2 : q < l
            · simp [c, c2, show q < l + 1 by omega]
            · simp [c, c2, show ¬ q < l + 1 by omega]
        | succ m ih2 =>
          intro i h' br hi hb hS' hO
          have hlt2 : ¬ (24 : Int32) ≤ nI i := by rw [show (24 : Int32) = nI 24 from rfl, i_le (by omega) (by omega)]; omega
          have hz : (sm &&& ((1 : Int32) <<< (nI l &&& 31))) &&& (br ^^^ (-1)) = 0 ↔ (bt sm l && anyB i (bk l)) = bt sm l := by
            rw [b_zero]
            constructor
            · intro hh
              have := hh l (by omega)
              rw [b_and, hbit l (by omega), b_not _ (by omega), hb l (by omega)] at this
              simp at this
              cases h1 : bt sm l with
              | false => rfl
              | true => simpa using this h1 h1
            · intro hh q hq
              rw [b_and, hbit q hq, b_not _ hq, hb q hq]
              by_cases c : q = l
              · subst c; rw [hh]; cases bt sm q <;> simp
              · simp [c]
          refine go_ok okF1 (C := cdX7_brokenOnes) (by rfl) [5, 23] 30 (by exact Nat.le_of_ble_eq_true rfl) ?_
          simp (maxSteps := 2000000) only [go, stp, inS, ↓reduceIte, Bool.false_eq_true, Nat.reduceLT, Nat.reduceEqDiff, Nat.reduceAdd, ldI, ldL, ldA, st1, st2, okS, List.getElem?_cons_zero, List.getElem?_cons_succ, List.length_cons, List.length_nil, List.set_cons_zero, List.set_cons_succ, callP, callF, popN, ct, Value.category, cI, List.getD_cons_zero, List.getD_cons_succ, and_self, and_true, true_and, Nat.zero_le, Nat.reduceLeDiff, Nat.add_zero, Nat.zero_add, List.nil_append, List.cons_append, Option.toList_some, Option.toList_none, List.append_nil, hset_ss, true_or, or_true, eq_self, beq_self_eq_true, List.drop_succ_cons, List.drop_zero, swT, swL, hset_ap, not_true_eq_false, not_false_eq_true, true_implies, false_implies, implies_true, Int32.reduceLE, Int32.reduceLT, Int32.reduceAdd, Int32.reduceSub, Int32.reduceOfInt, Int32.reduceToNatClampNeg, i10, i01, Nat.add_left_cancel_iff, Nat.left_eq_add, Nat.add_eq_left, cdX7_brokenOnes, F1, hlt2, hS'.1.1, hS'.1.2, nI_1]
          refine ⟨fun c => ?_, fun c => ?_⟩
          · have c := hz.mp c
            refine ih (l + 1) h' br _ _ (by omega) (fun q hq => ?_) hS' hO
            rw [hb q hq]
            by_cases c3 : q = l
            · subst c3
              cases h1 : bt sm q with
              | false => simp
              | true =>
                rw [h1] at c
                simp at c
                simp [c, anyB_mono (show i ≤ 24 by omega) c]
            · by_cases c2 : q < l
              · simp [c3, c2, show q < l + 1 by omega]
              · simp [c3, c2, show ¬ q < l + 1 by omega]
          · refine ⟨vp_in_nI (by omega) (by omega), ?_⟩
            rw [i_cl (show i < 2147483648 by omega)]
            refine Z_broken hG hS' (by omega) (fun h2 hS2 hO2 => ?_)
            rw [hbk']
            have hb2 : ∀ v : Bool, v = bk l i → ∀ q, q < 32 → bt (br ||| (if v = true then sm &&& ((1 : Int32) <<< (nI l &&& 31)) else 0)) q = (decide (q < l) && (bt sm q && anyB 24 (bk q)) || decide (q = l) && (bt sm q && anyB (i + 1) (bk q))) := by
              intro v hv q hq
              rw [b_or, b_ite, hbit q hq, b_0, hb q hq, anyB]
              by_cases c3 : q = l
              · subst c3; rw [← hv]; cases v <;> cases bt sm q <;> simp
              · cases v <;> simp [c3]
            cases hv : bk l i with
            | false =>
              refine go_ok okF1 (C := cdX7_brokenOnes) (by rfl) [5, 23] 30 (by exact Nat.le_of_ble_eq_true rfl) ?_
              simp (maxSteps := 2000000) only [go, stp, inS, ↓reduceIte, Bool.false_eq_true, Nat.reduceLT, Nat.reduceEqDiff, Nat.reduceAdd, ldI, ldL, ldA, st1, st2, okS, List.getElem?_cons_zero, List.getElem?_cons_succ, List.length_cons, List.length_nil, List.set_cons_zero, List.set_cons_succ, callP, callF, popN, ct, Value.category, cI, List.getD_cons_zero, List.getD_cons_succ, and_self, and_true, true_and, Nat.zero_le, Nat.reduceLeDiff, Nat.add_zero, Nat.zero_add, List.nil_append, List.cons_append, Option.toList_some, Option.toList_none, List.append_nil, hset_ss, true_or, or_true, eq_self, beq_self_eq_true, List.drop_succ_cons, List.drop_zero, swT, swL, hset_ap, not_true_eq_false, not_false_eq_true, true_implies, false_implies, implies_true, Int32.reduceLE, Int32.reduceLT, Int32.reduceAdd, Int32.reduceSub, Int32.reduceOfInt, Int32.reduceToNatClampNeg, i10, i01, Nat.add_left_cancel_iff, Nat.left_eq_add, Nat.add_eq_left, cdX7_brokenOnes, F1, nI_1]
              have := ih2 (i + 1) h2 (br ||| 0) (by omega) (fun q hq => by have := hb2 false hv.symm q hq; simpa using this) hS2 (hO.tr hO2)
              exact this
            | true =>
              refine go_ok okF1 (C := cdX7_brokenOnes) (by rfl) [5, 23] 30 (by exact Nat.le_of_ble_eq_true rfl) ?_
              simp (maxSteps := 2000000) only [go, stp, inS, ↓reduceIte, Bool.false_eq_true, Nat.reduceLT, Nat.reduceEqDiff, Nat.reduceAdd, ldI, ldL, ldA, st1, st2, okS, List.getElem?_cons_zero, List.getElem?_cons_succ, List.length_cons, List.length_nil, List.set_cons_zero, List.set_cons_succ, callP, callF, popN, ct, Value.category, cI, List.getD_cons_zero, List.getD_cons_succ, and_self, and_true, true_and, Nat.zero_le, Nat.reduceLeDiff, Nat.add_zero, Nat.zero_add, List.nil_append, List.cons_append, Option.toList_some, Option.toList_none, List.append_nil, hset_ss, true_or, or_true, eq_self, beq_self_eq_true, List.drop_succ_cons, List.drop_zero, swT, swL, hset_ap, not_true_eq_false, not_false_eq_true, true_implies, false_implies, implies_true, Int32.reduceLE, Int32.reduceLT, Int32.reduceAdd, Int32.reduceSub, Int32.reduceOfInt, Int32.reduceToNatClampNeg, i10, i01, Nat.add_left_cancel_iff, Nat.left_eq_add, Nat.add_eq_left, cdX7_brokenOnes, F1, nI_1]
              have := ih2 (i + 1) h2 (br ||| (sm &&& ((1 : Int32) <<< (nI l &&& 31)))) (by omega) (fun q hq => by have := hb2 true hv.symm q hq; simpa using this) hS2 (hO.tr hO2)
              exact this
      exact inner 24 0 h' br (by omega) (fun q hq => by rw [hb q hq]; simp [anyB]) hS' hO
  exact outer 7 0 h 0 _ _ (by omega) (fun q hq => by rw [b_0]; simp) hS sOff.rf
set_option maxRecDepth 100000 in
set_option maxHeartbeats 400000 in
theorem Z_quarrelsOf {sm dn : Int32} (hG : smG t x f sE G S L R ac) (hS : smE h t x Tm f sE G S L R ac) (hq : ∀ h' W', smS h' t x Tm f sE G S L R ac dn W' → sOff h h' (t + 5) (t + 8) → Q (some (.int (brM (fun law i => bkE law (bt dn) G ac L R f 12 0 (Tm i)) sm))) n h') : Ok 50 [.ref t, .ref x, .int dn, .int sm] n h Q := by
  refine ok_of kMX7_quarrelsOf kCX7_quarrelsOf (Nat.le_of_ble_eq_true rfl) (fun z => ?_)
  change A z _ _ 0 0 _ 0 [some (.ref t), some (.ref x), some (.int dn), some (.int sm)] [] _
  obtain ⟨al, dn0, fi, W0, hE⟩ := id hS.2.2.1
  have e1 := (show h (t + 5) = _ from hE.1)
  refine go_ok okF1 (C := cdX7_quarrelsOf) (by rfl) [] 30 (by exact Nat.le_of_ble_eq_true rfl) ?_
  simp (maxSteps := 2000000) only [go, stp, inS, ↓reduceIte, Bool.false_eq_true, Nat.reduceLT, Nat.reduceEqDiff, Nat.reduceAdd, ldI, ldL, ldA, st1, st2, okS, List.getElem?_cons_zero, List.getElem?_cons_succ, List.length_cons, List.length_nil, List.set_cons_zero, List.set_cons_succ, callP, callF, popN, ct, Value.category, cI, List.getD_cons_zero, List.getD_cons_succ, and_self, and_true, true_and, Nat.zero_le, Nat.reduceLeDiff, Nat.add_zero, Nat.zero_add, List.nil_append, List.cons_append, Option.toList_some, Option.toList_none, List.append_nil, hset_ss, true_or, or_true, eq_self, beq_self_eq_true, List.drop_succ_cons, List.drop_zero, swT, swL, hset_ap, not_true_eq_false, not_false_eq_true, true_implies, false_implies, implies_true, Int32.reduceLE, Int32.reduceLT, Int32.reduceAdd, Int32.reduceSub, Int32.reduceOfInt, Int32.reduceToNatClampNeg, i10, i01, Nat.add_left_cancel_iff, Nat.left_eq_add, Nat.add_eq_left, cdX7_quarrelsOf, F1, hS.1.1, e1]
  refine Z_work hG hS (fun h1 W' hS1 hO1 => ?_)
  refine go_ok okF1 (C := cdX7_quarrelsOf) (by rfl) [] 30 (by exact Nat.le_of_ble_eq_true rfl) ?_
  simp (maxSteps := 2000000) only [go, stp, inS, ↓reduceIte, Bool.false_eq_true, Nat.reduceLT, Nat.reduceEqDiff, Nat.reduceAdd, ldI, ldL, ldA, st1, st2, okS, List.getElem?_cons_zero, List.getElem?_cons_succ, List.length_cons, List.length_nil, List.set_cons_zero, List.set_cons_succ, callP, callF, popN, ct, Value.category, cI, List.getD_cons_zero, List.getD_cons_succ, and_self, and_true, true_and, Nat.zero_le, Nat.reduceLeDiff, Nat.add_zero, Nat.zero_add, List.nil_append, List.cons_append, Option.toList_some, Option.toList_none, List.append_nil, hset_ss, true_or, or_true, eq_self, beq_self_eq_true, List.drop_succ_cons, List.drop_zero, swT, swL, hset_ap, not_true_eq_false, not_false_eq_true, true_implies, false_implies, implies_true, Int32.reduceLE, Int32.reduceLT, Int32.reduceAdd, Int32.reduceSub, Int32.reduceOfInt, Int32.reduceToNatClampNeg, i10, i01, Nat.add_left_cancel_iff, Nat.left_eq_add, Nat.add_eq_left, cdX7_quarrelsOf, F1, hS1.1.1]
  refine Z_brokenOnes hG hS1 (fun h2 hS2 hO2 => ?_)
  refine go_ok okF1 (C := cdX7_quarrelsOf) (by rfl) [] 30 (by exact Nat.le_of_ble_eq_true rfl) ?_
  simp (maxSteps := 2000000) only [go, stp, inS, ↓reduceIte, Bool.false_eq_true, Nat.reduceLT, Nat.reduceEqDiff, Nat.reduceAdd, ldI, ldL, ldA, st1, st2, okS, List.getElem?_cons_zero, List.getElem?_cons_succ, List.length_cons, List.length_nil, List.set_cons_zero, List.set_cons_succ, callP, callF, popN, ct, Value.category, cI, List.getD_cons_zero, List.getD_cons_succ, and_self, and_true, true_and, Nat.zero_le, Nat.reduceLeDiff, Nat.add_zero, Nat.zero_add, List.nil_append, List.cons_append, Option.toList_some, Option.toList_none, List.append_nil, hset_ss, true_or, or_true, eq_self, beq_self_eq_true, List.drop_succ_cons, List.drop_zero, swT, swL, hset_ap, not_true_eq_false, not_false_eq_true, true_implies, false_implies, implies_true, Int32.reduceLE, Int32.reduceLT, Int32.reduceAdd, Int32.reduceSub, Int32.reduceOfInt, Int32.reduceToNatClampNeg, i10, i01, Nat.add_left_cancel_iff, Nat.left_eq_add, Nat.add_eq_left, cdX7_quarrelsOf, F1]
  exact hq h2 W' hS2 (hO1.tr hO2)
end SM
