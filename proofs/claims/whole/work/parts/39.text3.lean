
/-! the reader's invariant, and append -/
def pI (s : pT) (len : Nat) : Prop := match s with
  | (ac, ot, om, mi, sk, G, L, R) => ac ≤ len ∧ ot ≤ len + 1 ∧ om ≤ 2 ∧ (0 < om → 0 < ac ∧ isCm (G (ac - 1))) ∧ mi ≤ 1 ∧ (om = 0 → mi = 0) ∧ sgOk G ac ∧ nd G ac = (ot : Int) ∧ (∀ k, k < ac → isCm (G k) → (k + 1 = ac ∧ om = 2) ∨ tmOk (L k)) ∧ (∀ k, k < ac → isCm (G k) → (k + 1 = ac ∧ 0 < om) ∨ tmOk (R k))
def pw (s : pT) : Prop := s.2.2.2.2.1 = -1 ∧ s.2.1 = 0 ∧ s.2.2.1 = 0
theorem tmO_ok {mi : Nat} {b : Int32} (h : ¬ tmO mi b = 1000) : tmOk (tmO mi b) := by
  unfold tmO at h ⊢
  by_cases c1 : 48 ≤ b ∧ b ≤ 57
  · rw [if_pos c1]
    obtain ⟨j, h48, hj, rfl⟩ := i_rng (a := 48) (b := 57) (by omega) c1.1 c1.2 (by omega)
    by_cases c2 : mi = 1
    · rw [if_pos c2]
      exact (by unfold tmOk; decide +kernel : ∀ j, j < 58 → 48 ≤ j → tmOk (48 - nI j)) j (by omega) h48
    · rw [if_neg c2]
      exact (by unfold tmOk; decide +kernel : ∀ j, j < 58 → 48 ≤ j → tmOk (nI j - 48)) j (by omega) h48
  · rw [if_neg c1] at h ⊢
    by_cases c2 : mi = 1
    · rw [if_pos c2] at h; exact absurd rfl h
    · rw [if_neg c2] at h ⊢
      by_cases c3 : 97 ≤ b ∧ b ≤ 99
      · rw [if_pos c3]
        obtain ⟨j, h97, hj, rfl⟩ := i_rng (a := 97) (b := 99) (by omega) c3.1 c3.2 (by omega)
        exact (by unfold tmOk; decide +kernel : ∀ j, j < 100 → 97 ≤ j → tmOk (20 + (nI j - 97))) j (by omega) h97
      · rw [if_neg c3] at h ⊢
        by_cases c4 : b = 110
        · rw [if_pos c4]; exact Or.inl rfl
        · rw [if_neg c4] at h; exact absurd rfl h
theorem sgOk_add {G : Nat → Int32} {ac : Nat} {b : Int32} (h : sgOk G ac) (hn : 1 ≤ nd G ac) (hb : isCm b ∨ isTw b ∨ isOn b) : sgOk (upd G ac b) (ac + 1) := by
  intro k hk
  have e : ∀ q, q ≤ ac → nd (upd G ac b) q = nd G q := fun q hq => nd_ext fun i hi => pk_un (by omega)
  by_cases hka : k = ac
  · subst hka; rw [pk_us, e k (Nat.le_refl _)]; exact ⟨hb, hn⟩
  · rw [pk_un hka, e k (by omega)]; exact h k (by omega)
theorem nd_add {G : Nat → Int32} {ac : Nat} {b : Int32} : nd (upd G ac b) (ac + 1) = nd G ac + dl b := by
  rw [nd, pk_us, nd_ext (fun i hi => pk_un (by omega))]
theorem dl_tw {b : Int32} (h : isTw b) : dl b = 1 := by unfold dl; rw [if_pos (twB_iff.mpr h)]
theorem dl_cm {b : Int32} (h : isCm b) : dl b = -1 := by unfold dl; rw [if_neg (fun q => cm_ntw h (twB_iff.mp q)), if_pos (cmB_iff.mpr h)]
theorem dl_on {b : Int32} (h : isOn b) : dl b = 0 := by unfold dl; rw [if_neg (fun q => on_ntw h (twB_iff.mp q)), if_neg (fun q => on_ncm h (cmB_iff.mp q))]
theorem pI_step {s : pT} {len : Nat} {b : Int32} (h : pI s len) : pI (pstep s len b) (len + 1) := by
  obtain ⟨ac, ot, om, mi, sk, G, L, R⟩ := s
  obtain ⟨a1, a2, a3, a4, a5, a6, a7, a8, a9, a10⟩ := h
  have same : ∀ mi' sk', mi' ≤ 1 → (om = 0 → mi' = 0) → pI (ac, ot, om, mi', sk', G, L, R) (len + 1) := fun mi' sk' h1 h2 => ⟨by omega, by omega, a3, a4, h1, h2, a7, a8, a9, a10⟩
  unfold pstep
  dsimp only
  by_cases c0 : ¬ sk = -1
  · rw [if_pos c0]; exact same _ _ a5 a6
  rw [if_neg c0]
  by_cases c1 : 0 < om
  · rw [if_pos c1]
    by_cases c2 : b = 45 ∧ mi = 0
    · rw [if_pos c2]; exact same _ _ (by omega) (by omega)
    rw [if_neg c2]
    by_cases c3 : tmO mi b = 1000
    · rw [if_pos c3]; exact same _ _ a5 a6
    rw [if_neg c3]
    obtain ⟨hac, hcm⟩ := a4 c1
    by_cases c4 : om = 2
    · rw [if_pos c4]
      refine ⟨by omega, by omega, by omega, fun _ => a4 c1, by omega, fun _ => rfl, a7, a8, fun k hk hc => ?_, fun k hk hc => ?_⟩
      · right
        by_cases hk2 : k = ac - 1
        · subst hk2; rw [pk_us]; exact tmO_ok c3
        · rw [pk_un hk2]
          rcases a9 k hk hc with q | q
          · omega
          · exact q
      · rcases a10 k hk hc with q | q
        · left; exact ⟨q.1, by omega⟩
        · right; exact q
    · rw [if_neg c4]
      refine ⟨by omega, by omega, by omega, fun q => absurd q (by omega), by omega, fun _ => rfl, a7, a8, fun k hk hc => ?_, fun k hk hc => ?_⟩
      · rcases a9 k hk hc with q | q
        · omega
        · right; exact q
      · right
        by_cases hk2 : k = ac - 1
        · subst hk2; rw [pk_us]; exact tmO_ok c3
        · rw [pk_un hk2]
          rcases a10 k hk hc with q | q
          · omega
          · exact q
  rw [if_neg c1]
  by_cases c2 : ot = 0
  · rw [if_pos c2]; exact same _ _ a5 a6
  rw [if_neg c2]
  have hom : om = 0 := by omega
  have old : (∀ k, k < ac + 1 → isCm (upd G ac b k) → k ≠ ac → tmOk (L k) ∧ tmOk (R k)) := fun k hk hc hne => by
    rw [pk_un hne] at hc
    refine ⟨?_, ?_⟩
    · rcases a9 k (by omega) hc with q | q
      · omega
      · exact q
    · rcases a10 k (by omega) hc with q | q
      · omega
      · exact q
  by_cases c3 : b = 38 ∨ b = 124
  · rw [if_pos c3]
    have hb : isTw b := c3
    refine ⟨by omega, by omega, by omega, fun q => absurd q (by omega), a5, fun _ => a6 hom, sgOk_add a7 (by omega) (Or.inr (Or.inl hb)), by rw [nd_add, a8, dl_tw hb]; omega, fun k hk hc => ?_, fun k hk hc => ?_⟩
    · by_cases hka : k = ac
      · subst hka; rw [pk_us] at hc; exact absurd hc (tw_ncm hb)
      · right; exact (old k hk hc hka).1
    · by_cases hka : k = ac
      · subst hka; rw [pk_us] at hc; exact absurd hc (tw_ncm hb)
      · right; exact (old k hk hc hka).2
  rw [if_neg c3]
  by_cases c4 : b = 33 ∨ b = 63
  · rw [if_pos c4]
    have hb : isOn b := c4
    refine ⟨by omega, by omega, by omega, fun q => absurd q (by omega), a5, fun _ => a6 hom, sgOk_add a7 (by omega) (Or.inr (Or.inr hb)), by rw [nd_add, a8, dl_on hb]; omega, fun k hk hc => ?_, fun k hk hc => ?_⟩
    · by_cases hka : k = ac
      · subst hka; rw [pk_us] at hc; exact absurd hc (on_ncm hb)
      · right; exact (old k hk hc hka).1
    · by_cases hka : k = ac
      · subst hka; rw [pk_us] at hc; exact absurd hc (on_ncm hb)
      · right; exact (old k hk hc hka).2
  rw [if_neg c4]
  by_cases c5 : b = 60 ∨ b = 61 ∨ b = 62
  · rw [if_pos c5]
    have hb : isCm b := c5
    refine ⟨by omega, by omega, by omega, fun _ => ⟨by omega, by rw [Nat.add_sub_cancel, pk_us]; exact hb⟩, a5, fun q => absurd q (by omega), sgOk_add a7 (by omega) (Or.inl hb), by rw [nd_add, a8, dl_cm hb]; omega, fun k hk hc => ?_, fun k hk hc => ?_⟩
    · by_cases hka : k = ac
      · left; exact ⟨by omega, rfl⟩
      · right; exact (old k hk hc hka).1
    · by_cases hka : k = ac
      · left; exact ⟨by omega, by omega⟩
      · right; exact (old k hk hc hka).2
  rw [if_neg c5]
  exact same _ _ a5 a6
theorem pI_wf {s : pT} {len : Nat} (h : pI s len) (hw : pw s) : WFG s.2.2.2.2.2.1 s.1 := by
  obtain ⟨ac, ot, om, mi, sk, G, L, R⟩ := s
  obtain ⟨a1, a2, a3, a4, a5, a6, a7, a8, a9, a10⟩ := h
  obtain ⟨w1, w2, w3⟩ := hw
  dsimp only at w1 w2 w3 ⊢
  exact ⟨a7, by rw [a8, w2]; rfl⟩
-- a text as an object that has read len bytes
def TxS (h : aH) (t : Nat) (B S : Nat → Int32) (s : pT) (len : Nat) : Prop := TxAt h t B s.2.2.2.2.2.1 S s.2.2.2.2.2.2.1 s.2.2.2.2.2.2.2 (nI len) (nI s.1) (nI s.2.1) (nI s.2.2.1) (nI s.2.2.2.1) s.2.2.2.2.1
def szOk (S : Nat → Int32) (s : pT) : Prop := pw s → ∀ k, k < s.1 → S k = nI (sz s.2.2.2.2.2.1 s.1 k)
set_option maxRecDepth 100000 in
set_option maxHeartbeats 400000 in
theorem X_append {n : Nat} {h : aH} {Q : aQ} {t : Nat} {B S : Nat → Int32} {s : pT} {len : Nat} {b : Int32} (hT : TxS h t B S s len) (hI : pI s len) (hl : len ≤ 40) (hsz : szOk S s)
    (hq0 : len = 40 → Q (some (.int 0)) n h)
    (hq1 : len < 40 → ∀ h' S', TxS h' t (upd B len b) S' (pstep s len b) (len + 1) → szOk S' (pstep s len b) → sOff h h' t (t + 6) → Q (some (.int 1)) n h') : Ok 69 [.ref t, .int b] n h Q := by
  have hI' := pI_step (b := b) hI
  obtain ⟨ac, ot, om, mi, sk, G, L, R⟩ := s
  obtain ⟨a1, a2, a3, a4, a5, a6, a7, a8, a9, a10⟩ := id hI
  unfold TxS at hT
  dsimp only at hT
  obtain ⟨e0, e1, e2, e3, e4, e5⟩ := id hT
  have n0 : ¬ nI len < 0 := i_nn (by omega)
  have l40 : nI len < 40 ↔ len < 40 := i_lt (b := 40) (by omega) (by omega)
  have hom : nI om ≤ 0 ↔ om = 0 := by rw [show (0 : Int32) = nI 0 from rfl, i_le (by omega) (by omega)]; omega
  have h1T : len < 40 → TxAt (hset (hset h (t + 1) (.inr (40, .inl (upd B len b)))) t (.inl (9, [.ref (t + 1), .ref (t + 2), .ref (t + 3), .ref (t + 4), .ref (t + 5), .int (nI (len + 1)), .int (nI ac), .int (nI ot), .int (nI om), .int (nI mi), .int sk]))) t (upd B len b) G S L R (nI (len + 1)) (nI ac) (nI ot) (nI om) (nI mi) sk := fun _ => ⟨by simp [hset_ap], by simp [hset_ap], by simp [hset_ap, e2], by simp [hset_ap, e3], by simp [hset_ap, e4], by simp [hset_ap, e5]⟩
  have h1O : sOff h (hset (hset h (t + 1) (.inr (40, .inl (upd B len b)))) t (.inl (9, [.ref (t + 1), .ref (t + 2), .ref (t + 3), .ref (t + 4), .ref (t + 5), .int (nI (len + 1)), .int (nI ac), .int (nI ot), .int (nI om), .int (nI mi), .int sk]))) t (t + 6) := (sOff.rf.set (by omega) (by omega)).set (by omega) (by omega)
  -- behind the reading of a byte that goes on
  have good : ∀ z (h' : aH) (s' : pT), len < 40 → pstep (ac, ot, om, mi, sk, G, L, R) len b = s' → sk = -1 → s'.2.2.2.2.1 = -1 → TxS h' t (upd B len b) S s' (len + 1) → sOff h h' t (t + 6) → A z 69 n 0 0 h' 68 [some (.ref t), some (.int b), none] [.int 1] Q := by
    intro z h' s' hlt hs' hsk hsk' hT' hO'
    rw [hs'] at hI' hq1
    obtain ⟨ac', ot', om', mi', sk', G', L', R'⟩ := s'
    dsimp only at hsk'
    subst hsk'
    refine go_ok okF1 (C := cdX9_append) (by rfl) [] 30 (by exact Nat.le_of_ble_eq_true rfl) ?_
    simp (maxSteps := 2000000) only [go, stp, inS, ↓reduceIte, Bool.false_eq_true, Nat.reduceLT, Nat.reduceEqDiff, Nat.reduceAdd, ldI, ldL, ldA, st1, st2, okS, List.getElem?_cons_zero, List.getElem?_cons_succ, List.length_cons, List.length_nil, List.set_cons_zero, List.set_cons_succ, callP, callF, popN, ct, Value.category, cI, List.getD_cons_zero, List.getD_cons_succ, and_self, and_true, true_and, Nat.zero_le, Nat.reduceLeDiff, Nat.add_zero, Nat.zero_add, List.nil_append, List.cons_append, Option.toList_some, Option.toList_none, List.append_nil, hset_ss, true_or, or_true, eq_self, beq_self_eq_true, List.drop_succ_cons, List.drop_zero, swT, swL, hset_ap, not_true_eq_false, not_false_eq_true, true_implies, false_implies, implies_true, Int32.reduceLE, Int32.reduceLT, Int32.reduceAdd, Int32.reduceSub, Int32.reduceOfInt, Int32.reduceToNatClampNeg, i10, i01, Nat.add_left_cancel_iff, Nat.left_eq_add, Nat.add_eq_left, cdX9_append, F1, hT'.1]
    refine X_isWhole hT' ?_
    have i0 : ∀ q : Nat, q ≤ 41 → (nI q = 0 ↔ q = 0) := fun q hq => i_eq (b := 0) (by omega) (by omega)
    obtain ⟨b1, b2, b3, -⟩ := id hI'
    simp only [i0 ot' (by omega), i0 om' (by omega), true_and]
    refine go_ok okF1 (C := cdX9_append) (by rfl) [] 30 (by exact Nat.le_of_ble_eq_true rfl) ?_
    simp (maxSteps := 2000000) only [go, stp, inS, ↓reduceIte, Bool.false_eq_true, Nat.reduceLT, Nat.reduceEqDiff, Nat.reduceAdd, ldI, ldL, ldA, st1, st2, okS, List.getElem?_cons_zero, List.getElem?_cons_succ, List.length_cons, List.length_nil, List.set_cons_zero, List.set_cons_succ, callP, callF, popN, ct, Value.category, cI, List.getD_cons_zero, List.getD_cons_succ, and_self, and_true, true_and, Nat.zero_le, Nat.reduceLeDiff, Nat.add_zero, Nat.zero_add, List.nil_append, List.cons_append, Option.toList_some, Option.toList_none, List.append_nil, hset_ss, true_or, or_true, eq_self, beq_self_eq_true, List.drop_succ_cons, List.drop_zero, swT, swL, hset_ap, not_true_eq_false, not_false_eq_true, true_implies, false_implies, implies_true, Int32.reduceLE, Int32.reduceLT, Int32.reduceAdd, Int32.reduceSub, Int32.reduceOfInt, Int32.reduceToNatClampNeg, i10, i01, Nat.add_left_cancel_iff, Nat.left_eq_add, Nat.add_eq_left, cdX9_append, F1, ib0, hT'.1]
    refine ⟨fun c => ?_, fun c => ?_⟩
    · refine hq1 hlt h' S hT' (fun hw => absurd ⟨hw.2.1, hw.2.2⟩ c) hO'
    · have hw : pw (ac', ot', om', mi', -1, G', L', R') := ⟨rfl, Classical.not_not.mp c⟩
      refine X_measure hT' (by omega) (pI_wf hI' hw) (fun h'' S'' hT'' hS'' hO'' => ?_)
      refine go_ok okF1 (C := cdX9_append) (by rfl) [] 30 (by exact Nat.le_of_ble_eq_true rfl) ?_
      simp (maxSteps := 2000000) only [go, stp, inS, ↓reduceIte, Bool.false_eq_true, Nat.reduceLT, Nat.reduceEqDiff, Nat.reduceAdd, ldI, ldL, ldA, st1, st2, okS, List.getElem?_cons_zero, List.getElem?_cons_succ, List.length_cons, List.length_nil, List.set_cons_zero, List.set_cons_succ, callP, callF, popN, ct, Value.category, cI, List.getD_cons_zero, List.getD_cons_succ, and_self, and_true, true_and, Nat.zero_le, Nat.reduceLeDiff, Nat.add_zero, Nat.zero_add, List.nil_append, List.cons_append, Option.toList_some, Option.toList_none, List.append_nil, hset_ss, true_or, or_true, eq_self, beq_self_eq_true, List.drop_succ_cons, List.drop_zero, swT, swL, hset_ap, not_true_eq_false, not_false_eq_true, true_implies, false_implies, implies_true, Int32.reduceLE, Int32.reduceLT, Int32.reduceAdd, Int32.reduceSub, Int32.reduceOfInt, Int32.reduceToNatClampNeg, i10, i01, Nat.add_left_cancel_iff, Nat.left_eq_add, Nat.add_eq_left, cdX9_append, F1]
      exact hq1 hlt h'' S'' hT'' (fun _ => hS'') (hO'.tr hO'')
  -- behind one with which it cannot go on
  have bad : ∀ z, len < 40 → sk = -1 → pstep (ac, ot, om, mi, sk, G, L, R) len b = (ac, ot, om, mi, nI len, G, L, R) → A z 69 n 0 0 (hset (hset h (t + 1) (.inr (40, .inl (upd B len b)))) t (.inl (9, [.ref (t + 1), .ref (t + 2), .ref (t + 3), .ref (t + 4), .ref (t + 5), .int (nI (len + 1)), .int (nI ac), .int (nI ot), .int (nI om), .int (nI mi), .int sk]))) 68 [some (.ref t), some (.int b), none] [.int 0] Q := by
    intro z hlt hsk hp
    have hx : nI (len + 1) - 1 = nI len := pk_sub (a := len + 1) (b := 1) (by omega)
    refine go_ok okF1 (C := cdX9_append) (by rfl) [] 30 (by exact Nat.le_of_ble_eq_true rfl) ?_
    simp (maxSteps := 2000000) only [go, stp, inS, ↓reduceIte, Bool.false_eq_true, Nat.reduceLT, Nat.reduceEqDiff, Nat.reduceAdd, ldI, ldL, ldA, st1, st2, okS, List.getElem?_cons_zero, List.getElem?_cons_succ, List.length_cons, List.length_nil, List.set_cons_zero, List.set_cons_succ, callP, callF, popN, ct, Value.category, cI, List.getD_cons_zero, List.getD_cons_succ, and_self, and_true, true_and, Nat.zero_le, Nat.reduceLeDiff, Nat.add_zero, Nat.zero_add, List.nil_append, List.cons_append, Option.toList_some, Option.toList_none, List.append_nil, hset_ss, true_or, or_true, eq_self, beq_self_eq_true, List.drop_succ_cons, List.drop_zero, swT, swL, hset_ap, not_true_eq_false, not_false_eq_true, true_implies, false_implies, implies_true, Int32.reduceLE, Int32.reduceLT, Int32.reduceAdd, Int32.reduceSub, Int32.reduceOfInt, Int32.reduceToNatClampNeg, i10, i01, Nat.add_left_cancel_iff, Nat.left_eq_add, Nat.add_eq_left, cdX9_append, F1, hx]
    rw [hp] at hq1
    refine hq1 hlt _ S ⟨by simp [hset_ap], by simp [hset_ap], by simp [hset_ap, e2], by simp [hset_ap, e3], by simp [hset_ap, e4], by simp [hset_ap, e5]⟩ (fun hw => ?_) ((sOff.rf.set (by omega) (by omega)).set (by omega) (by omega))
    have := hw.1
    dsimp only at this
    exact absurd this (fun q => by
      have h1 : (nI len).toInt = len := nI_toInt (by omega)
      rw [q] at h1
      have : (-1 : Int32).toInt = -1 := by decide
      omega)
  refine ok_of kMX9_append kCX9_append (Nat.le_of_ble_eq_true rfl) (fun z => ?_)
  change A z _ _ 0 0 _ 0 [some (.ref t), some (.int b), none] [] _
  refine go_ok okF1 (C := cdX9_append) (by rfl) [68] 60 (by exact Nat.le_of_ble_eq_true rfl) ?_
  simp (maxSteps := 2000000) only [go, stp, inS, ↓reduceIte, Bool.false_eq_true, Nat.reduceLT, Nat.reduceEqDiff, Nat.reduceAdd, ldI, ldL, ldA, st1, st2, okS, List.getElem?_cons_zero, List.getElem?_cons_succ, List.length_cons, List.length_nil, List.set_cons_zero, List.set_cons_succ, callP, callF, popN, ct, Value.category, cI, List.getD_cons_zero, List.getD_cons_succ, and_self, and_true, true_and, Nat.zero_le, Nat.reduceLeDiff, Nat.add_zero, Nat.zero_add, List.nil_append, List.cons_append, Option.toList_some, Option.toList_none, List.append_nil, hset_ss, true_or, or_true, eq_self, beq_self_eq_true, List.drop_succ_cons, List.drop_zero, swT, swL, hset_ap, not_true_eq_false, not_false_eq_true, true_implies, false_implies, implies_true, Int32.reduceLE, Int32.reduceLT, Int32.reduceAdd, Int32.reduceSub, Int32.reduceOfInt, Int32.reduceToNatClampNeg, i10, i01, Nat.add_left_cancel_iff, Nat.left_eq_add, Nat.add_eq_left, cdX9_append, F1, e0, e1, n0, l40, nI_1, i_cl (show len < 2147483648 by omega), hom]
  refine ⟨fun hlt => ⟨vp_in_nI (by omega) (by omega), fun hsk => ⟨fun c1 => ?_, fun c1 => ?_⟩, fun hsk => ?_⟩, fun c => hq0 (by omega)⟩
  · -- a sign
    refine X_readSign (h1T hlt) (by omega) (by omega) (fun hn => ?_) (fun hp hb h' hT' hO' => ?_) (fun hp hb h' hT' hO' => ?_) (fun hp hb h' hT' hO' => ?_)
    · refine bad z hlt hsk ?_
      unfold pstep
      dsimp only
      rw [if_neg (by simp [hsk]), if_neg (by omega)]
      by_cases c2 : ot = 0
      · rw [if_pos c2]
      · rw [if_neg c2]
        have hn := hn.resolve_left c2
        rw [if_neg (fun q : b = 38 ∨ b = 124 => hn (Or.inl q)), if_neg (fun q : b = 33 ∨ b = 63 => hn (Or.inr (Or.inl q))), if_neg (fun q : b = 60 ∨ b = 61 ∨ b = 62 => hn (Or.inr (Or.inr q)))]
    · refine good z h' (ac + 1, ot + 1, 0, mi, sk, upd G ac b, L, R) hlt ?_ hsk hsk (by subst c1; exact hT') (h1O.tr hO')
      unfold pstep
      dsimp only
      rw [if_neg (by simp [hsk]), if_neg (by omega), if_neg (by omega), if_pos (show b = 38 ∨ b = 124 from hb)]
    · refine good z h' (ac + 1, ot, 0, mi, sk, upd G ac b, L, R) hlt ?_ hsk hsk (by subst c1; exact hT') (h1O.tr hO')
      unfold pstep
      dsimp only
      rw [if_neg (by simp [hsk]), if_neg (by omega), if_neg (by omega), if_neg (fun q : b = 38 ∨ b = 124 => on_ntw hb q), if_pos (show b = 33 ∨ b = 63 from hb)]
    · refine good z h' (ac + 1, ot - 1, 2, mi, sk, upd G ac b, L, R) hlt ?_ hsk hsk hT' (h1O.tr hO')
      unfold pstep
      dsimp only
      rw [if_neg (by simp [hsk]), if_neg (by omega), if_neg (by omega), if_neg (fun q : b = 38 ∨ b = 124 => cm_ntw hb q), if_neg (fun q : b = 33 ∨ b = 63 => on_ncm q hb), if_pos (show b = 60 ∨ b = 61 ∨ b = 62 from hb)]
  · -- a term
    have hpos : 0 < om := by omega
    obtain ⟨hac, -⟩ := a4 hpos
    refine X_readTerm (h1T hlt) hac (by omega) hpos a3 a5 (fun hb hm h' hT' hO' => ?_) (fun hb ht => ?_) (fun hb ht ho h' hT' hO' => ?_) (fun hb ht ho h' hT' hO' => ?_)
    · refine go_ok okF1 (C := cdX9_append) (by rfl) [68] 5 (by exact Nat.le_of_ble_eq_true rfl) ?_
      simp (maxSteps := 2000000) only [go, stp, inS, ↓reduceIte, Bool.false_eq_true, Nat.reduceLT, Nat.reduceEqDiff, Nat.reduceAdd, ldI, ldL, ldA, st1, st2, okS, List.getElem?_cons_zero, List.getElem?_cons_succ, List.length_cons, List.length_nil, List.set_cons_zero, List.set_cons_succ, callP, callF, popN, ct, Value.category, cI, List.getD_cons_zero, List.getD_cons_succ, and_self, and_true, true_and, Nat.zero_le, Nat.reduceLeDiff, Nat.add_zero, Nat.zero_add, List.nil_append, List.cons_append, Option.toList_some, Option.toList_none, List.append_nil, hset_ss, true_or, or_true, eq_self, beq_self_eq_true, List.drop_succ_cons, List.drop_zero, swT, swL, hset_ap, not_true_eq_false, not_false_eq_true, true_implies, false_implies, implies_true, Int32.reduceLE, Int32.reduceLT, Int32.reduceAdd, Int32.reduceSub, Int32.reduceOfInt, Int32.reduceToNatClampNeg, i10, i01, Nat.add_left_cancel_iff, Nat.left_eq_add, Nat.add_eq_left, cdX9_append, F1]
      refine good z h' (ac, ot, om, 1, sk, G, L, R) hlt ?_ hsk hsk hT' (h1O.tr hO')
      unfold pstep
      dsimp only
      rw [if_neg (by simp [hsk]), if_pos hpos, if_pos ⟨hb, hm⟩]
    · refine go_ok okF1 (C := cdX9_append) (by rfl) [68] 5 (by exact Nat.le_of_ble_eq_true rfl) ?_
      simp (maxSteps := 2000000) only [go, stp, inS, ↓reduceIte, Bool.false_eq_true, Nat.reduceLT, Nat.reduceEqDiff, Nat.reduceAdd, ldI, ldL, ldA, st1, st2, okS, List.getElem?_cons_zero, List.getElem?_cons_succ, List.length_cons, List.length_nil, List.set_cons_zero, List.set_cons_succ, callP, callF, popN, ct, Value.category, cI, List.getD_cons_zero, List.getD_cons_succ, and_self, and_true, true_and, Nat.zero_le, Nat.reduceLeDiff, Nat.add_zero, Nat.zero_add, List.nil_append, List.cons_append, Option.toList_some, Option.toList_none, List.append_nil, hset_ss, true_or, or_true, eq_self, beq_self_eq_true, List.drop_succ_cons, List.drop_zero, swT, swL, hset_ap, not_true_eq_false, not_false_eq_true, true_implies, false_implies, implies_true, Int32.reduceLE, Int32.reduceLT, Int32.reduceAdd, Int32.reduceSub, Int32.reduceOfInt, Int32.reduceToNatClampNeg, i10, i01, Nat.add_left_cancel_iff, Nat.left_eq_add, Nat.add_eq_left, cdX9_append, F1]
      refine bad z hlt hsk ?_
      unfold pstep
      dsimp only
      rw [if_neg (by simp [hsk]), if_pos hpos, if_neg hb, if_pos ht]
    · refine go_ok okF1 (C := cdX9_append) (by rfl) [68] 5 (by exact Nat.le_of_ble_eq_true rfl) ?_
      simp (maxSteps := 2000000) only [go, stp, inS, ↓reduceIte, Bool.false_eq_true, Nat.reduceLT, Nat.reduceEqDiff, Nat.reduceAdd, ldI, ldL, ldA, st1, st2, okS, List.getElem?_cons_zero, List.getElem?_cons_succ, List.length_cons, List.length_nil, List.set_cons_zero, List.set_cons_succ, callP, callF, popN, ct, Value.category, cI, List.getD_cons_zero, List.getD_cons_succ, and_self, and_true, true_and, Nat.zero_le, Nat.reduceLeDiff, Nat.add_zero, Nat.zero_add, List.nil_append, List.cons_append, Option.toList_some, Option.toList_none, List.append_nil, hset_ss, true_or, or_true, eq_self, beq_self_eq_true, List.drop_succ_cons, List.drop_zero, swT, swL, hset_ap, not_true_eq_false, not_false_eq_true, true_implies, false_implies, implies_true, Int32.reduceLE, Int32.reduceLT, Int32.reduceAdd, Int32.reduceSub, Int32.reduceOfInt, Int32.reduceToNatClampNeg, i10, i01, Nat.add_left_cancel_iff, Nat.left_eq_add, Nat.add_eq_left, cdX9_append, F1]
      refine good z h' (ac, ot, 1, 0, sk, G, upd L (ac - 1) (tmO mi b), R) hlt ?_ hsk hsk hT' (h1O.tr hO')
      unfold pstep
      dsimp only
      rw [if_neg (by simp [hsk]), if_pos hpos, if_neg hb, if_neg ht, if_pos ho]
    · refine go_ok okF1 (C := cdX9_append) (by rfl) [68] 5 (by exact Nat.le_of_ble_eq_true rfl) ?_
      simp (maxSteps := 2000000) only [go, stp, inS, ↓reduceIte, Bool.false_eq_true, Nat.reduceLT, Nat.reduceEqDiff, Nat.reduceAdd, ldI, ldL, ldA, st1, st2, okS, List.getElem?_cons_zero, List.getElem?_cons_succ, List.length_cons, List.length_nil, List.set_cons_zero, List.set_cons_succ, callP, callF, popN, ct, Value.category, cI, List.getD_cons_zero, List.getD_cons_succ, and_self, and_true, true_and, Nat.zero_le, Nat.reduceLeDiff, Nat.add_zero, Nat.zero_add, List.nil_append, List.cons_append, Option.toList_some, Option.toList_none, List.append_nil, hset_ss, true_or, or_true, eq_self, beq_self_eq_true, List.drop_succ_cons, List.drop_zero, swT, swL, hset_ap, not_true_eq_false, not_false_eq_true, true_implies, false_implies, implies_true, Int32.reduceLE, Int32.reduceLT, Int32.reduceAdd, Int32.reduceSub, Int32.reduceOfInt, Int32.reduceToNatClampNeg, i10, i01, Nat.add_left_cancel_iff, Nat.left_eq_add, Nat.add_eq_left, cdX9_append, F1]
      refine good z h' (ac, ot, 0, 0, sk, G, L, upd R (ac - 1) (tmO mi b)) hlt ?_ hsk hsk hT' (h1O.tr hO')
      unfold pstep
      dsimp only
      rw [if_neg (by simp [hsk]), if_pos hpos, if_neg hb, if_neg ht, if_neg (by omega)]
  · have hp : pstep (ac, ot, om, mi, sk, G, L, R) len b = (ac, ot, om, mi, sk, G, L, R) := by
      unfold pstep
      dsimp only
      rw [if_pos hsk]
    rw [hp] at hq1
    exact hq1 hlt _ S (h1T hlt) (fun hw => absurd hw.1 hsk) h1O
