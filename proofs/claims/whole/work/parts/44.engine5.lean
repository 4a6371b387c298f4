
section E5
variable {n : Nat} {h : aH} {Q : aQ} {t tb x most : Nat} {dn fi : Int32} {W f sE G S L R : Nat → Int32} {nr ac k : Nat}
theorem cmB_if {g : Int32} : (if g = 60 ∨ g = 61 ∨ g = 62 then (1 : Int32) else 0) = if cmB g = true then 1 else 0 := by
  by_cases hc : g = 60 ∨ g = 61 ∨ g = 62
  · rw [if_pos hc, if_pos (cmB_iff.mpr hc)]
  · rw [if_neg hc, if_neg (fun q => hc (cmB_iff.mp q))]
set_option maxRecDepth 100000 in
set_option maxHeartbeats 400000 in
theorem E_joined {v : Nat → Nat → Nat} (hE : EnAt h t tb (alm nr) dn fi W) (hn : nr ≤ 16) (hX : TxW h x G S L R ac) (hx : txOk G S L R ac) (hd2 : t + 3 ≤ x ∨ x + 6 ≤ t) (hk : k < ac) (hc : ¬ isCm (G k)) (hW : ∀ j, k < j → j < ac → W j = enc nr (fun r => v r j)) (hv : ∀ r j, r < nr → v r j ≤ 2)
    (hq : ∀ h' fi', EnAt h' t tb (alm nr) dn fi' W → firQ fi fi' (fun i => ∃ r, r < nr ∧ FR G ac L R f r (v r) k i) → sOff h h' t (t + 3) → Q (some (.int (enc nr (fun r => evA (bt dn) G ac L R f r (v r) k)))) n h') : Ok 8 [.ref t, .ref x, .int (nI k)] n h Q := by
  obtain ⟨B, len, ot, om, mi, sk, hX0⟩ := hX
  obtain ⟨x1, x2, x3, x4⟩ := hx
  have hk1 := wf_un x2 hk hc
  have w40 : ∀ j, j < 40 → (if 0 ≤ nI j ∧ nI j < 40 then W (nI j).toNatClampNeg else 0) = W j := fun j hj => by
    rw [if_pos ⟨nI_pos' (by omega), (i_lt (b := 40) (by omega) (by omega)).mpr hj⟩, i_cl (by omega)]
  have hncm : ¬ cmB (G k) = true := fun q => hc (cmB_iff.mp q)
  have keep : ∀ (h' : aH) fi', EnO h' t tb (alm nr) dn fi' → sOff h h' t (t + 1) → EnAt h' t tb (alm nr) dn fi' W ∧ sOff h h' t (t + 3) := fun h' fi' hE' hO' => by
    obtain ⟨-, ⟨a, b, c, d, e, hS⟩, hW0⟩ := id hE
    exact ⟨⟨hE', ⟨a, b, c, d, e, by unfold SdAt; rw [hO' (t + 1) (by omega)]; exact hS⟩, by rw [hO' _ (by omega)]; exact hW0⟩, fun q hq => hO' q (by omega)⟩
  have sw : ∀ z g, G k = g → A z 8 n 0 0 h 13 [some (.ref t), some (.ref x), some (.int (nI k)), some (.int (enc nr (fun r => v r (k + 1))))] [.int g] Q := by
    intro z g hg
    have e0 := (show h t = _ from hE.1)
    -- the two forms with two tests
    have two : isTw (G k) → (k + 1) + sz G ac (k + 1) < ac ∧ nI k + 1 + (if 0 ≤ nI k + 1 ∧ nI k + 1 < nI ac ∧ nI k + 1 < 40 then S (nI k + 1).toNatClampNeg else 0) = nI (k + 1 + sz G ac (k + 1)) := fun htw => by
      refine ⟨(wf_bi x2 hk htw).2, ?_⟩
      rw [nI_1, gK hk1 x1, x3 _ hk1, nI_add]
    refine go_ok okF1 (C := cdX1_joined) (by rfl) [] 20 (by exact Nat.le_of_ble_eq_true rfl) ?_
    simp (maxSteps := 2000000) only [go, stp, inS, ↓reduceIte, Bool.false_eq_true, Nat.reduceLT, Nat.reduceEqDiff, Nat.reduceAdd, ldI, ldL, ldA, st1, st2, okS, List.getElem?_cons_zero, List.getElem?_cons_succ, List.length_cons, List.length_nil, List.set_cons_zero, List.set_cons_succ, callP, callF, popN, ct, Value.category, cI, List.getD_cons_zero, List.getD_cons_succ, and_self, and_true, true_and, Nat.zero_le, Nat.reduceLeDiff, Nat.add_zero, Nat.zero_add, List.nil_append, List.cons_append, Option.toList_some, Option.toList_none, List.append_nil, hset_ss, true_or, or_true, eq_self, beq_self_eq_true, List.drop_succ_cons, List.drop_zero, swT, swL, hset_ap, not_true_eq_false, not_false_eq_true, true_implies, false_implies, implies_true, Int32.reduceLE, Int32.reduceLT, Int32.reduceAdd, Int32.reduceSub, Int32.reduceOfInt, Int32.reduceToNatClampNeg, i10, i01, Nat.add_left_cancel_iff, Nat.left_eq_add, Nat.add_eq_left, cdX1_joined, F1]
    refine ⟨fun c1 => ?_, fun c1 => ⟨fun c2 => ?_, fun c2 => ⟨fun c3 => ?_, fun c3 => ?_⟩⟩⟩
    · -- !
      refine go_ok okF1 (C := cdX1_joined) (by rfl) [] 20 (by exact Nat.le_of_ble_eq_true rfl) ?_
      simp (maxSteps := 2000000) only [go, stp, inS, ↓reduceIte, Bool.false_eq_true, Nat.reduceLT, Nat.reduceEqDiff, Nat.reduceAdd, ldI, ldL, ldA, st1, st2, okS, List.getElem?_cons_zero, List.getElem?_cons_succ, List.length_cons, List.length_nil, List.set_cons_zero, List.set_cons_succ, callP, callF, popN, ct, Value.category, cI, List.getD_cons_zero, List.getD_cons_succ, and_self, and_true, true_and, Nat.zero_le, Nat.reduceLeDiff, Nat.add_zero, Nat.zero_add, List.nil_append, List.cons_append, Option.toList_some, Option.toList_none, List.append_nil, hset_ss, true_or, or_true, eq_self, beq_self_eq_true, List.drop_succ_cons, List.drop_zero, swT, swL, hset_ap, not_true_eq_false, not_false_eq_true, true_implies, false_implies, implies_true, Int32.reduceLE, Int32.reduceLT, Int32.reduceAdd, Int32.reduceSub, Int32.reduceOfInt, Int32.reduceToNatClampNeg, i10, i01, Nat.add_left_cancel_iff, Nat.left_eq_add, Nat.add_eq_left, cdX1_joined, F1, e0]
      refine E_turned hE.1 hn (fun r hr => hv r _ hr) (fun h' fi' hE' hf hO => ?_)
      obtain ⟨k1, k2⟩ := keep h' fi' hE' hO
      refine go_ok okF1 (C := cdX1_joined) (by rfl) [] 20 (by exact Nat.le_of_ble_eq_true rfl) ?_
      simp (maxSteps := 2000000) only [go, stp, inS, ↓reduceIte, Bool.false_eq_true, Nat.reduceLT, Nat.reduceEqDiff, Nat.reduceAdd, ldI, ldL, ldA, st1, st2, okS, List.getElem?_cons_zero, List.getElem?_cons_succ, List.length_cons, List.length_nil, List.set_cons_zero, List.set_cons_succ, callP, callF, popN, ct, Value.category, cI, List.getD_cons_zero, List.getD_cons_succ, and_self, and_true, true_and, Nat.zero_le, Nat.reduceLeDiff, Nat.add_zero, Nat.zero_add, List.nil_append, List.cons_append, Option.toList_some, Option.toList_none, List.append_nil, hset_ss, true_or, or_true, eq_self, beq_self_eq_true, List.drop_succ_cons, List.drop_zero, swT, swL, hset_ap, not_true_eq_false, not_false_eq_true, true_implies, false_implies, implies_true, Int32.reduceLE, Int32.reduceLT, Int32.reduceAdd, Int32.reduceSub, Int32.reduceOfInt, Int32.reduceToNatClampNeg, i10, i01, Nat.add_left_cancel_iff, Nat.left_eq_add, Nat.add_eq_left, cdX1_joined, F1]
      have := hq h' fi' k1 (fun i hi => ?_) k2
      · have he : ∀ r, evA (bt dn) G ac L R f r (v r) k = vT (bt dn 0) (v r (k + 1)) := fun r => by
          unfold evA; rw [if_neg hncm, if_pos (hg.trans c1)]
        simp only [he] at this
        exact this
      · rw [hf i hi]
        constructor
        · rintro (w | ⟨w, r, hr, w2⟩)
          · exact Or.inl w
          · exact Or.inr ⟨r, hr, Or.inr (Or.inl ⟨w, hg.trans c1, w2⟩)⟩
        · rintro (w | ⟨r, hr, w⟩)
          · exact Or.inl w
          · have e33 := hg.trans c1
            unfold FR at w
            rw [e33] at w
            rcases w with ⟨w, -⟩ | ⟨w1, -, w2⟩ | ⟨-, w, -⟩ | ⟨-, w, -⟩ | ⟨-, w, -⟩
            · rw [e33] at hncm; exact absurd w hncm
            · exact Or.inr ⟨w1, r, hr, w2⟩
            · exact absurd w (by decide)
            · exact absurd w (by decide)
            · exact absurd w (by decide)
    · -- &
      obtain ⟨t1, t2⟩ := two (Or.inl (hg.trans c2))
      refine go_ok okF1 (C := cdX1_joined) (by rfl) [] 20 (by exact Nat.le_of_ble_eq_true rfl) ?_
      simp (maxSteps := 2000000) only [go, stp, inS, ↓reduceIte, Bool.false_eq_true, Nat.reduceLT, Nat.reduceEqDiff, Nat.reduceAdd, ldI, ldL, ldA, st1, st2, okS, List.getElem?_cons_zero, List.getElem?_cons_succ, List.length_cons, List.length_nil, List.set_cons_zero, List.set_cons_succ, callP, callF, popN, ct, Value.category, cI, List.getD_cons_zero, List.getD_cons_succ, and_self, and_true, true_and, Nat.zero_le, Nat.reduceLeDiff, Nat.add_zero, Nat.zero_add, List.nil_append, List.cons_append, Option.toList_some, Option.toList_none, List.append_nil, hset_ss, true_or, or_true, eq_self, beq_self_eq_true, List.drop_succ_cons, List.drop_zero, swT, swL, hset_ap, not_true_eq_false, not_false_eq_true, true_implies, false_implies, implies_true, Int32.reduceLE, Int32.reduceLT, Int32.reduceAdd, Int32.reduceSub, Int32.reduceOfInt, Int32.reduceToNatClampNeg, i10, i01, Nat.add_left_cancel_iff, Nat.left_eq_add, Nat.add_eq_left, cdX1_joined, F1, e0, hX0.1]
      refine X_secondOf hX0 ?_
      rw [t2]
      refine go_ok okF1 (C := cdX1_joined) (by rfl) [] 20 (by exact Nat.le_of_ble_eq_true rfl) ?_
      simp (maxSteps := 2000000) only [go, stp, inS, ↓reduceIte, Bool.false_eq_true, Nat.reduceLT, Nat.reduceEqDiff, Nat.reduceAdd, ldI, ldL, ldA, st1, st2, okS, List.getElem?_cons_zero, List.getElem?_cons_succ, List.length_cons, List.length_nil, List.set_cons_zero, List.set_cons_succ, callP, callF, popN, ct, Value.category, cI, List.getD_cons_zero, List.getD_cons_succ, and_self, and_true, true_and, Nat.zero_le, Nat.reduceLeDiff, Nat.add_zero, Nat.zero_add, List.nil_append, List.cons_append, Option.toList_some, Option.toList_none, List.append_nil, hset_ss, true_or, or_true, eq_self, beq_self_eq_true, List.drop_succ_cons, List.drop_zero, swT, swL, hset_ap, not_true_eq_false, not_false_eq_true, true_implies, false_implies, implies_true, Int32.reduceLE, Int32.reduceLT, Int32.reduceAdd, Int32.reduceSub, Int32.reduceOfInt, Int32.reduceToNatClampNeg, i10, i01, Nat.add_left_cancel_iff, Nat.left_eq_add, Nat.add_eq_left, cdX1_joined, F1, e0]
      refine E_verdictAt hE ?_
      rw [w40 _ (by omega), hW _ (by omega) t1]
      refine go_ok okF1 (C := cdX1_joined) (by rfl) [] 20 (by exact Nat.le_of_ble_eq_true rfl) ?_
      simp (maxSteps := 2000000) only [go, stp, inS, ↓reduceIte, Bool.false_eq_true, Nat.reduceLT, Nat.reduceEqDiff, Nat.reduceAdd, ldI, ldL, ldA, st1, st2, okS, List.getElem?_cons_zero, List.getElem?_cons_succ, List.length_cons, List.length_nil, List.set_cons_zero, List.set_cons_succ, callP, callF, popN, ct, Value.category, cI, List.getD_cons_zero, List.getD_cons_succ, and_self, and_true, true_and, Nat.zero_le, Nat.reduceLeDiff, Nat.add_zero, Nat.zero_add, List.nil_append, List.cons_append, Option.toList_some, Option.toList_none, List.append_nil, hset_ss, true_or, or_true, eq_self, beq_self_eq_true, List.drop_succ_cons, List.drop_zero, swT, swL, hset_ap, not_true_eq_false, not_false_eq_true, true_implies, false_implies, implies_true, Int32.reduceLE, Int32.reduceLT, Int32.reduceAdd, Int32.reduceSub, Int32.reduceOfInt, Int32.reduceToNatClampNeg, i10, i01, Nat.add_left_cancel_iff, Nat.left_eq_add, Nat.add_eq_left, cdX1_joined, F1, e0]
      refine E_both hE.1 hn (fun r hr => hv r _ hr) (fun r hr => hv r _ hr) (fun h' fi' hE' hf hO => ?_)
      obtain ⟨k1, k2⟩ := keep h' fi' hE' hO
      refine go_ok okF1 (C := cdX1_joined) (by rfl) [] 20 (by exact Nat.le_of_ble_eq_true rfl) ?_
      simp (maxSteps := 2000000) only [go, stp, inS, ↓reduceIte, Bool.false_eq_true, Nat.reduceLT, Nat.reduceEqDiff, Nat.reduceAdd, ldI, ldL, ldA, st1, st2, okS, List.getElem?_cons_zero, List.getElem?_cons_succ, List.length_cons, List.length_nil, List.set_cons_zero, List.set_cons_succ, callP, callF, popN, ct, Value.category, cI, List.getD_cons_zero, List.getD_cons_succ, and_self, and_true, true_and, Nat.zero_le, Nat.reduceLeDiff, Nat.add_zero, Nat.zero_add, List.nil_append, List.cons_append, Option.toList_some, Option.toList_none, List.append_nil, hset_ss, true_or, or_true, eq_self, beq_self_eq_true, List.drop_succ_cons, List.drop_zero, swT, swL, hset_ap, not_true_eq_false, not_false_eq_true, true_implies, false_implies, implies_true, Int32.reduceLE, Int32.reduceLT, Int32.reduceAdd, Int32.reduceSub, Int32.reduceOfInt, Int32.reduceToNatClampNeg, i10, i01, Nat.add_left_cancel_iff, Nat.left_eq_add, Nat.add_eq_left, cdX1_joined, F1]
      have e38 := hg.trans c2
      have := hq h' fi' k1 (fun i hi => ?_) k2
      · have he : ∀ r, evA (bt dn) G ac L R f r (v r) k = vB (bt dn 2) (v r (k + 1)) (v r (k + 1 + sz G ac (k + 1))) := fun r => by
          unfold evA; rw [if_neg hncm, if_neg (by rw [e38]; decide), if_neg (by rw [e38]; decide), if_pos e38]
        simp only [he] at this
        exact this
      · rw [hf i hi]
        constructor
        · rintro (w | ⟨w, r, hr, w2⟩)
          · exact Or.inl w
          · exact Or.inr ⟨r, hr, Or.inr (Or.inr (Or.inr (Or.inl ⟨w, e38, w2⟩)))⟩
        · rintro (w | ⟨r, hr, w⟩)
          · exact Or.inl w
          · unfold FR at w
            rcases w with ⟨w, -⟩ | ⟨-, w, -⟩ | ⟨-, w, -⟩ | ⟨w1, -, w2⟩ | ⟨-, w, -⟩
            · exact absurd w hncm
            · rw [e38] at w; exact absurd w (by decide)
            · rw [e38] at w; exact absurd w (by decide)
            · exact Or.inr ⟨w1, r, hr, w2⟩
            · rw [e38] at w; exact absurd w (by decide)
    · -- |
      obtain ⟨t1, t2⟩ := two (Or.inr (hg.trans c3))
      refine go_ok okF1 (C := cdX1_joined) (by rfl) [] 20 (by exact Nat.le_of_ble_eq_true rfl) ?_
      simp (maxSteps := 2000000) only [go, stp, inS, ↓reduceIte, Bool.false_eq_true, Nat.reduceLT, Nat.reduceEqDiff, Nat.reduceAdd, ldI, ldL, ldA, st1, st2, okS, List.getElem?_cons_zero, List.getElem?_cons_succ, List.length_cons, List.length_nil, List.set_cons_zero, List.set_cons_succ, callP, callF, popN, ct, Value.category, cI, List.getD_cons_zero, List.getD_cons_succ, and_self, and_true, true_and, Nat.zero_le, Nat.reduceLeDiff, Nat.add_zero, Nat.zero_add, List.nil_append, List.cons_append, Option.toList_some, Option.toList_none, List.append_nil, hset_ss, true_or, or_true, eq_self, beq_self_eq_true, List.drop_succ_cons, List.drop_zero, swT, swL, hset_ap, not_true_eq_false, not_false_eq_true, true_implies, false_implies, implies_true, Int32.reduceLE, Int32.reduceLT, Int32.reduceAdd, Int32.reduceSub, Int32.reduceOfInt, Int32.reduceToNatClampNeg, i10, i01, Nat.add_left_cancel_iff, Nat.left_eq_add, Nat.add_eq_left, cdX1_joined, F1, e0, hX0.1]
      refine X_secondOf hX0 ?_
      rw [t2]
      refine go_ok okF1 (C := cdX1_joined) (by rfl) [] 20 (by exact Nat.le_of_ble_eq_true rfl) ?_
      simp (maxSteps := 2000000) only [go, stp, inS, ↓reduceIte, Bool.false_eq_true, Nat.reduceLT, Nat.reduceEqDiff, Nat.reduceAdd, ldI, ldL, ldA, st1, st2, okS, List.getElem?_cons_zero, List.getElem?_cons_succ, List.length_cons, List.length_nil, List.set_cons_zero, List.set_cons_succ, callP, callF, popN, ct, Value.category, cI, List.getD_cons_zero, List.getD_cons_succ, and_self, and_true, true_and, Nat.zero_le, Nat.reduceLeDiff, Nat.add_zero, Nat.zero_add, List.nil_append, List.cons_append, Option.toList_some, Option.toList_none, List.append_nil, hset_ss, true_or, or_true, eq_self, beq_self_eq_true, List.drop_succ_cons, List.drop_zero, swT, swL, hset_ap, not_true_eq_false, not_false_eq_true, true_implies, false_implies, implies_true, Int32.reduceLE, Int32.reduceLT, Int32.reduceAdd, Int32.reduceSub, Int32.reduceOfInt, Int32.reduceToNatClampNeg, i10, i01, Nat.add_left_cancel_iff, Nat.left_eq_add, Nat.add_eq_left, cdX1_joined, F1, e0]
      refine E_verdictAt hE ?_
      rw [w40 _ (by omega), hW _ (by omega) t1]
      refine go_ok okF1 (C := cdX1_joined) (by rfl) [] 20 (by exact Nat.le_of_ble_eq_true rfl) ?_
      simp (maxSteps := 2000000) only [go, stp, inS, ↓reduceIte, Bool.false_eq_true, Nat.reduceLT, Nat.reduceEqDiff, Nat.reduceAdd, ldI, ldL, ldA, st1, st2, okS, List.getElem?_cons_zero, List.getElem?_cons_succ, List.length_cons, List.length_nil, List.set_cons_zero, List.set_cons_succ, callP, callF, popN, ct, Value.category, cI, List.getD_cons_zero, List.getD_cons_succ, and_self, and_true, true_and, Nat.zero_le, Nat.reduceLeDiff, Nat.add_zero, Nat.zero_add, List.nil_append, List.cons_append, Option.toList_some, Option.toList_none, List.append_nil, hset_ss, true_or, or_true, eq_self, beq_self_eq_true, List.drop_succ_cons, List.drop_zero, swT, swL, hset_ap, not_true_eq_false, not_false_eq_true, true_implies, false_implies, implies_true, Int32.reduceLE, Int32.reduceLT, Int32.reduceAdd, Int32.reduceSub, Int32.reduceOfInt, Int32.reduceToNatClampNeg, i10, i01, Nat.add_left_cancel_iff, Nat.left_eq_add, Nat.add_eq_left, cdX1_joined, F1, e0]
      refine E_either hE.1 hn (fun r hr => hv r _ hr) (fun r hr => hv r _ hr) (fun h' fi' hE' hf hO => ?_)
      obtain ⟨k1, k2⟩ := keep h' fi' hE' hO
      refine go_ok okF1 (C := cdX1_joined) (by rfl) [] 20 (by exact Nat.le_of_ble_eq_true rfl) ?_
      simp (maxSteps := 2000000) only [go, stp, inS, ↓reduceIte, Bool.false_eq_true, Nat.reduceLT, Nat.reduceEqDiff, Nat.reduceAdd, ldI, ldL, ldA, st1, st2, okS, List.getElem?_cons_zero, List.getElem?_cons_succ, List.length_cons, List.length_nil, List.set_cons_zero, List.set_cons_succ, callP, callF, popN, ct, Value.category, cI, List.getD_cons_zero, List.getD_cons_succ, and_self, and_true, true_and, Nat.zero_le, Nat.reduceLeDiff, Nat.add_zero, Nat.zero_add, List.nil_append, List.cons_append, Option.toList_some, Option.toList_none, List.append_nil, hset_ss, true_or, or_true, eq_self, beq_self_eq_true, List.drop_succ_cons, List.drop_zero, swT, swL, hset_ap, not_true_eq_false, not_false_eq_true, true_implies, false_implies, implies_true, Int32.reduceLE, Int32.reduceLT, Int32.reduceAdd, Int32.reduceSub, Int32.reduceOfInt, Int32.reduceToNatClampNeg, i10, i01, Nat.add_left_cancel_iff, Nat.left_eq_add, Nat.add_eq_left, cdX1_joined, F1]
      have e124 := hg.trans c3
      have := hq h' fi' k1 (fun i hi => ?_) k2
      · have he : ∀ r, evA (bt dn) G ac L R f r (v r) k = vE (bt dn 3) (v r (k + 1)) (v r (k + 1 + sz G ac (k + 1))) := fun r => by
          unfold evA; rw [if_neg hncm, if_neg (by rw [e124]; decide), if_neg (by rw [e124]; decide), if_neg (by rw [e124]; decide)]
        simp only [he] at this
        exact this
      · rw [hf i hi]
        constructor
        · rintro (w | ⟨w, r, hr, w2⟩)
          · exact Or.inl w
          · exact Or.inr ⟨r, hr, Or.inr (Or.inr (Or.inr (Or.inr ⟨w, e124, w2⟩)))⟩
        · rintro (w | ⟨r, hr, w⟩)
          · exact Or.inl w
          · unfold FR at w
            rcases w with ⟨w, -⟩ | ⟨-, w, -⟩ | ⟨-, w, -⟩ | ⟨-, w, -⟩ | ⟨w1, -, w2⟩
            · exact absurd w hncm
            · rw [e124] at w; exact absurd w (by decide)
            · rw [e124] at w; exact absurd w (by decide)
            · rw [e124] at w; exact absurd w (by decide)
            · exact Or.inr ⟨w1, r, hr, w2⟩
    · -- ?
      have e63 : G k = 63 := by
        rcases (x2.1 k hk).1 with q | q | q
        · exact absurd q hc
        · rcases q with q | q
          · exact absurd (hg.symm.trans q) c2
          · exact absurd (hg.symm.trans q) c3
        · rcases q with q | q
          · exact absurd (hg.symm.trans q) c1
          · exact q
      refine go_ok okF1 (C := cdX1_joined) (by rfl) [] 20 (by exact Nat.le_of_ble_eq_true rfl) ?_
      simp (maxSteps := 2000000) only [go, stp, inS, ↓reduceIte, Bool.false_eq_true, Nat.reduceLT, Nat.reduceEqDiff, Nat.reduceAdd, ldI, ldL, ldA, st1, st2, okS, List.getElem?_cons_zero, List.getElem?_cons_succ, List.length_cons, List.length_nil, List.set_cons_zero, List.set_cons_succ, callP, callF, popN, ct, Value.category, cI, List.getD_cons_zero, List.getD_cons_succ, and_self, and_true, true_and, Nat.zero_le, Nat.reduceLeDiff, Nat.add_zero, Nat.zero_add, List.nil_append, List.cons_append, Option.toList_some, Option.toList_none, List.append_nil, hset_ss, true_or, or_true, eq_self, beq_self_eq_true, List.drop_succ_cons, List.drop_zero, swT, swL, hset_ap, not_true_eq_false, not_false_eq_true, true_implies, false_implies, implies_true, Int32.reduceLE, Int32.reduceLT, Int32.reduceAdd, Int32.reduceSub, Int32.reduceOfInt, Int32.reduceToNatClampNeg, i10, i01, Nat.add_left_cancel_iff, Nat.left_eq_add, Nat.add_eq_left, cdX1_joined, F1, e0, hX0.1]
      refine X_isCompare hX0 (fun g' hg' => ?_)
      rw [nI_1, gK hk1 x1] at hg'
      rw [hg', cmB_if]
      refine go_ok okF1 (C := cdX1_joined) (by rfl) [] 20 (by exact Nat.le_of_ble_eq_true rfl) ?_
      simp (maxSteps := 2000000) only [go, stp, inS, ↓reduceIte, Bool.false_eq_true, Nat.reduceLT, Nat.reduceEqDiff, Nat.reduceAdd, ldI, ldL, ldA, st1, st2, okS, List.getElem?_cons_zero, List.getElem?_cons_succ, List.length_cons, List.length_nil, List.set_cons_zero, List.set_cons_succ, callP, callF, popN, ct, Value.category, cI, List.getD_cons_zero, List.getD_cons_succ, and_self, and_true, true_and, Nat.zero_le, Nat.reduceLeDiff, Nat.add_zero, Nat.zero_add, List.nil_append, List.cons_append, Option.toList_some, Option.toList_none, List.append_nil, hset_ss, true_or, or_true, eq_self, beq_self_eq_true, List.drop_succ_cons, List.drop_zero, swT, swL, hset_ap, not_true_eq_false, not_false_eq_true, true_implies, false_implies, implies_true, Int32.reduceLE, Int32.reduceLT, Int32.reduceAdd, Int32.reduceSub, Int32.reduceOfInt, Int32.reduceToNatClampNeg, i10, i01, Nat.add_left_cancel_iff, Nat.left_eq_add, Nat.add_eq_left, cdX1_joined, F1, e0]
      refine E_asked hE.1 hn (fun r hr => hv r _ hr) (fun h' fi' hE' hf hO => ?_)
      obtain ⟨k1, k2⟩ := keep h' fi' hE' hO
      refine go_ok okF1 (C := cdX1_joined) (by rfl) [] 20 (by exact Nat.le_of_ble_eq_true rfl) ?_
      simp (maxSteps := 2000000) only [go, stp, inS, ↓reduceIte, Bool.false_eq_true, Nat.reduceLT, Nat.reduceEqDiff, Nat.reduceAdd, ldI, ldL, ldA, st1, st2, okS, List.getElem?_cons_zero, List.getElem?_cons_succ, List.length_cons, List.length_nil, List.set_cons_zero, List.set_cons_succ, callP, callF, popN, ct, Value.category, cI, List.getD_cons_zero, List.getD_cons_succ, and_self, and_true, true_and, Nat.zero_le, Nat.reduceLeDiff, Nat.add_zero, Nat.zero_add, List.nil_append, List.cons_append, Option.toList_some, Option.toList_none, List.append_nil, hset_ss, true_or, or_true, eq_self, beq_self_eq_true, List.drop_succ_cons, List.drop_zero, swT, swL, hset_ap, not_true_eq_false, not_false_eq_true, true_implies, false_implies, implies_true, Int32.reduceLE, Int32.reduceLT, Int32.reduceAdd, Int32.reduceSub, Int32.reduceOfInt, Int32.reduceToNatClampNeg, i10, i01, Nat.add_left_cancel_iff, Nat.left_eq_add, Nat.add_eq_left, cdX1_joined, F1]
      have := hq h' fi' k1 (fun i hi => ?_) k2
      · have he : ∀ r, evA (bt dn) G ac L R f r (v r) k = vQ (cmB (G (k + 1)) && bt dn 5) (v r (k + 1)) := fun r => by
          unfold evA; rw [if_neg hncm, if_neg (by rw [e63]; decide), if_pos e63]
        simp only [he] at this
        exact this
      · rw [hf i hi]
        constructor
        · rintro (w | ⟨w, w1, r, hr, w2⟩)
          · exact Or.inl w
          · exact Or.inr ⟨r, hr, Or.inr (Or.inr (Or.inl ⟨w, e63, w1, w2⟩))⟩
        · rintro (w | ⟨r, hr, w⟩)
          · exact Or.inl w
          · unfold FR at w
            rcases w with ⟨w, -⟩ | ⟨-, w, -⟩ | ⟨w1, -, w2, w3⟩ | ⟨-, w, -⟩ | ⟨-, w, -⟩
            · exact absurd w hncm
            · rw [e63] at w; exact absurd w (by decide)
            · exact Or.inr ⟨w1, w2, r, hr, w3⟩
            · rw [e63] at w; exact absurd w (by decide)
            · rw [e63] at w; exact absurd w (by decide)
  refine ok_of kMX1_joined kCX1_joined (Nat.le_of_ble_eq_true rfl) (fun z => ?_)
  change A z _ _ 0 0 _ 0 [some (.ref t), some (.ref x), some (.int (nI k)), none] [] _
  refine go_ok okF1 (C := cdX1_joined) (by rfl) [] 20 (by exact Nat.le_of_ble_eq_true rfl) ?_
  simp (maxSteps := 2000000) only [go, stp, inS, ↓reduceIte, Bool.false_eq_true, Nat.reduceLT, Nat.reduceEqDiff, Nat.reduceAdd, ldI, ldL, ldA, st1, st2, okS, List.getElem?_cons_zero, List.getElem?_cons_succ, List.length_cons, List.length_nil, List.set_cons_zero, List.set_cons_succ, callP, callF, popN, ct, Value.category, cI, List.getD_cons_zero, List.getD_cons_succ, and_self, and_true, true_and, Nat.zero_le, Nat.reduceLeDiff, Nat.add_zero, Nat.zero_add, List.nil_append, List.cons_append, Option.toList_some, Option.toList_none, List.append_nil, hset_ss, true_or, or_true, eq_self, beq_self_eq_true, List.drop_succ_cons, List.drop_zero, swT, swL, hset_ap, not_true_eq_false, not_false_eq_true, true_implies, false_implies, implies_true, Int32.reduceLE, Int32.reduceLT, Int32.reduceAdd, Int32.reduceSub, Int32.reduceOfInt, Int32.reduceToNatClampNeg, i10, i01, Nat.add_left_cancel_iff, Nat.left_eq_add, Nat.add_eq_left, cdX1_joined, F1, (show h t = _ from hE.1)]
  refine E_verdictAt hE ?_
  rw [nI_1, w40 _ (by omega), hW _ (by omega) hk1]
  refine go_ok okF1 (C := cdX1_joined) (by rfl) [] 20 (by exact Nat.le_of_ble_eq_true rfl) ?_
  simp (maxSteps := 2000000) only [go, stp, inS, ↓reduceIte, Bool.false_eq_true, Nat.reduceLT, Nat.reduceEqDiff, Nat.reduceAdd, ldI, ldL, ldA, st1, st2, okS, List.getElem?_cons_zero, List.getElem?_cons_succ, List.length_cons, List.length_nil, List.set_cons_zero, List.set_cons_succ, callP, callF, popN, ct, Value.category, cI, List.getD_cons_zero, List.getD_cons_succ, and_self, and_true, true_and, Nat.zero_le, Nat.reduceLeDiff, Nat.add_zero, Nat.zero_add, List.nil_append, List.cons_append, Option.toList_some, Option.toList_none, List.append_nil, hset_ss, true_or, or_true, eq_self, beq_self_eq_true, List.drop_succ_cons, List.drop_zero, swT, swL, hset_ap, not_true_eq_false, not_false_eq_true, true_implies, false_implies, implies_true, Int32.reduceLE, Int32.reduceLT, Int32.reduceAdd, Int32.reduceSub, Int32.reduceOfInt, Int32.reduceToNatClampNeg, i10, i01, Nat.add_left_cancel_iff, Nat.left_eq_add, Nat.add_eq_left, cdX1_joined, F1, hX0.1]
  refine X_signAt hX0 ?_
  rw [gK hk x1]
  exact sw z _ rfl
set_option maxRecDepth 100000 in
set_option maxHeartbeats 400000 in
theorem E_work (hE : ∃ al dn fi, EnAt h t tb al dn fi W) (hT : TbAt h tb most f sE nr) (h1 : nr ≤ most) (h2 : most ≤ 12) (hX : TxW h x G S L R ac) (hx : txOk G S L R ac) (hd1 : t + 3 ≤ tb ∨ tb + 3 ≤ t) (hd2 : t + 3 ≤ x ∨ x + 6 ≤ t)
    (hq : ∀ h' fi' W', EnAt h' t tb (alm nr) dn fi' W' → (∀ k, k < ac → W' k = enc nr (fun r => ev (bt dn) G ac L R f r k)) → (∀ i, i < 32 → (bt fi' i = true ↔ ∃ k, k < ac ∧ ∃ r, r < nr ∧ FR G ac L R f r (ev (bt dn) G ac L R f r) k i)) → sOff h h' t (t + 3) → Q none n h') : Ok 6 [.ref t, .ref x, .int dn] n h Q := by
  obtain ⟨al0, dn0, fi0, hE0, ⟨a, b, c, d, e, hS0⟩, hW0⟩ := hE
  have hX0 := hX
  obtain ⟨B, len, ot, om, mi, sk, hX1⟩ := hX0
  have hac : ac ≤ 40 := hx.1
  have hmin : (if 40 < nI ac then (40 : Int32) else nI ac) = nI ac := if_neg (by rw [show (40 : Int32) = nI 40 from rfl, i_lt (by omega) (by omega)]; omega)
  unfold EnO at hE0
  have xt : x ≠ t := by omega
  refine ok_of kMX1_work kCX1_work (Nat.le_of_ble_eq_true rfl) (fun z => ?_)
  change A z _ _ 0 0 _ 0 [some (.ref t), some (.ref x), some (.int dn), none] [] _
  refine go_ok okF1 (C := cdX1_work) (by rfl) [] 30 (by exact Nat.le_of_ble_eq_true rfl) ?_
  simp (maxSteps := 2000000) only [go, stp, inS, ↓reduceIte, Bool.false_eq_true, Nat.reduceLT, Nat.reduceEqDiff, Nat.reduceAdd, ldI, ldL, ldA, st1, st2, okS, List.getElem?_cons_zero, List.getElem?_cons_succ, List.length_cons, List.length_nil, List.set_cons_zero, List.set_cons_succ, callP, callF, popN, ct, Value.category, cI, List.getD_cons_zero, List.getD_cons_succ, and_self, and_true, true_and, Nat.zero_le, Nat.reduceLeDiff, Nat.add_zero, Nat.zero_add, List.nil_append, List.cons_append, Option.toList_some, Option.toList_none, List.append_nil, hset_ss, true_or, or_true, eq_self, beq_self_eq_true, List.drop_succ_cons, List.drop_zero, swT, swL, hset_ap, not_true_eq_false, not_false_eq_true, true_implies, false_implies, implies_true, Int32.reduceLE, Int32.reduceLT, Int32.reduceAdd, Int32.reduceSub, Int32.reduceOfInt, Int32.reduceToNatClampNeg, i10, i01, Nat.add_left_cancel_iff, Nat.left_eq_add, Nat.add_eq_left, cdX1_work, F1, hE0, hT.1]
  refine T_all hT ?_
  refine go_ok okF1 (C := cdX1_work) (by rfl) [33] 30 (by exact Nat.le_of_ble_eq_true rfl) ?_
  simp (maxSteps := 2000000) only [go, stp, inS, ↓reduceIte, Bool.false_eq_true, Nat.reduceLT, Nat.reduceEqDiff, Nat.reduceAdd, ldI, ldL, ldA, st1, st2, okS, List.getElem?_cons_zero, List.getElem?_cons_succ, List.length_cons, List.length_nil, List.set_cons_zero, List.set_cons_succ, callP, callF, popN, ct, Value.category, cI, List.getD_cons_zero, List.getD_cons_succ, and_self, and_true, true_and, Nat.zero_le, Nat.reduceLeDiff, Nat.add_zero, Nat.zero_add, List.nil_append, List.cons_append, Option.toList_some, Option.toList_none, List.append_nil, hset_ss, true_or, or_true, eq_self, beq_self_eq_true, List.drop_succ_cons, List.drop_zero, swT, swL, hset_ap, not_true_eq_false, not_false_eq_true, true_implies, false_implies, implies_true, Int32.reduceLE, Int32.reduceLT, Int32.reduceAdd, Int32.reduceSub, Int32.reduceOfInt, Int32.reduceToNatClampNeg, i10, i01, Nat.add_left_cancel_iff, Nat.left_eq_add, Nat.add_eq_left, cdX1_work, F1, hE0, hT.1, hX1.1, xt, hmin]
  -- acts from m on are judged
  have loop : ∀ m (xx : Int32) (h' : aH) (fi' : Int32) (W' : Nat → Int32), m ≤ ac → xx + 1 = nI m → EnAt h' t tb (alm nr) dn fi' W' → sOff h h' t (t + 3) → (∀ k, m ≤ k → k < ac → W' k = enc nr (fun r => ev (bt dn) G ac L R f r k)) → (∀ i, i < 32 → (bt fi' i = true ↔ ∃ k, m ≤ k ∧ k < ac ∧ ∃ r, r < nr ∧ FR G ac L R f r (ev (bt dn) G ac L R f r) k i)) →
      A z 6 n 0 0 h' 33 [some (.ref t), some (.ref x), some (.int dn), some (.int xx)] [] Q := by
    intro m
    induction m with
    | zero =>
      intro xx h' fi' W' _ hxx hE' hO hW' hf
      have hxx := x_d0 hxx
      subst hxx
      refine go_ok okF1 (C := cdX1_work) (by rfl) [33] 30 (by exact Nat.le_of_ble_eq_true rfl) ?_
      simp (maxSteps := 2000000) only [go, stp, inS, ↓reduceIte, Bool.false_eq_true, Nat.reduceLT, Nat.reduceEqDiff, Nat.reduceAdd, ldI, ldL, ldA, st1, st2, okS, List.getElem?_cons_zero, List.getElem?_cons_succ, List.length_cons, List.length_nil, List.set_cons_zero, List.set_cons_succ, callP, callF, popN, ct, Value.category, cI, List.getD_cons_zero, List.getD_cons_succ, and_self, and_true, true_and, Nat.zero_le, Nat.reduceLeDiff, Nat.add_zero, Nat.zero_add, List.nil_append, List.cons_append, Option.toList_some, Option.toList_none, List.append_nil, hset_ss, true_or, or_true, eq_self, beq_self_eq_true, List.drop_succ_cons, List.drop_zero, swT, swL, hset_ap, not_true_eq_false, not_false_eq_true, true_implies, false_implies, implies_true, Int32.reduceLE, Int32.reduceLT, Int32.reduceAdd, Int32.reduceSub, Int32.reduceOfInt, Int32.reduceToNatClampNeg, i10, i01, Nat.add_left_cancel_iff, Nat.left_eq_add, Nat.add_eq_left, cdX1_work, F1]
      refine hq h' fi' W' hE' (fun k hk => hW' k (Nat.zero_le _) hk) (fun i hi => ?_) hO
      rw [hf i hi]
      exact ⟨fun ⟨k, _, h2, h3⟩ => ⟨k, h2, h3⟩, fun ⟨k, h2, h3⟩ => ⟨k, Nat.zero_le _, h2, h3⟩⟩
    | succ m ih =>
      intro xx h' fi' W' hm hxx hE' hO hW' hf
      have hxx := x_dn hxx
      subst hxx
      have hlt : m < ac := by omega
      have hT' := hT.kept (h' := h') (fun k h3 h4 => hO k (by omega))
      have hX' := hX.kept (h' := h') (fun k h3 h4 => hO k (by omega))
      obtain ⟨B', len', ot', om', mi', sk', hX1'⟩ := id hX'
      have n0 : ¬ nI m < 0 := i_nn (by omega)
      have hrec : ∀ r, ev (bt dn) G ac L R f r m = evA (bt dn) G ac L R f r (ev (bt dn) G ac L R f r) m := fun r => ev_rec hx.2.1 hlt
      -- behind the judging of an act
      have fin : ∀ (h'' : aH) fi'', EnAt h'' t tb (alm nr) dn fi'' W' → sOff h' h'' t (t + 3) → firQ fi' fi'' (fun i => ∃ r, r < nr ∧ FR G ac L R f r (ev (bt dn) G ac L R f r) m i) →
          A z 6 n 0 0 h'' 65 [some (.ref t), some (.ref x), some (.int dn), some (.int (nI m))] [.int (enc nr (fun r => evA (bt dn) G ac L R f r (ev (bt dn) G ac L R f r) m)), .int (nI m), .ref (t + 2)] Q := by
        intro h'' fi'' hE'' hO'' hf''
        refine go_ok okF1 (C := cdX1_work) (by rfl) [33] 30 (by exact Nat.le_of_ble_eq_true rfl) ?_
        simp (maxSteps := 2000000) only [go, stp, inS, ↓reduceIte, Bool.false_eq_true, Nat.reduceLT, Nat.reduceEqDiff, Nat.reduceAdd, ldI, ldL, ldA, st1, st2, okS, List.getElem?_cons_zero, List.getElem?_cons_succ, List.length_cons, List.length_nil, List.set_cons_zero, List.set_cons_succ, callP, callF, popN, ct, Value.category, cI, List.getD_cons_zero, List.getD_cons_succ, and_self, and_true, true_and, Nat.zero_le, Nat.reduceLeDiff, Nat.add_zero, Nat.zero_add, List.nil_append, List.cons_append, Option.toList_some, Option.toList_none, List.append_nil, hset_ss, true_or, or_true, eq_self, beq_self_eq_true, List.drop_succ_cons, List.drop_zero, swT, swL, hset_ap, not_true_eq_false, not_false_eq_true, true_implies, false_implies, implies_true, Int32.reduceLE, Int32.reduceLT, Int32.reduceAdd, Int32.reduceSub, Int32.reduceOfInt, Int32.reduceToNatClampNeg, i10, i01, Nat.add_left_cancel_iff, Nat.left_eq_add, Nat.add_eq_left, cdX1_work, F1, hE''.2.2, i_cl (show m < 2147483648 by omega)]
        refine ⟨vp_in_nI (by omega) (by omega), ih _ _ fi'' (upd W' m (enc nr (fun r => evA (bt dn) G ac L R f r (ev (bt dn) G ac L R f r) m))) (by omega) (x_m1 _) ⟨?_, ?_, hset_s _ _ _⟩ ((hO.tr hO'').set (by omega) (by omega)) (fun k hk1 hk2 => ?_) (fun i hi => ?_)⟩
        · have := hE''.1
          unfold EnO at this ⊢
          rw [hset_n _ _ (by omega)]; exact this
        · obtain ⟨a, b, c, d, e, hs⟩ := hE''.2.1
          exact ⟨a, b, c, d, e, by unfold SdAt; rw [hset_n _ _ (by omega)]; exact hs⟩
        · by_cases hkm : k = m
          · subst hkm
            rw [pk_us]
            simp only [hrec]
          · rw [pk_un hkm]; exact hW' k (by omega) hk2
        · rw [hf'' i hi, hf i hi]
          constructor
          · rintro (⟨k, h3, h4, h5⟩ | h5)
            · exact ⟨k, by omega, h4, h5⟩
            · exact ⟨m, Nat.le_refl _, hlt, h5⟩
          · rintro ⟨k, h3, h4, h5⟩
            by_cases hkm : k = m
            · subst hkm; exact Or.inr h5
            · exact Or.inl ⟨k, by omega, h4, h5⟩
      refine go_ok okF1 (C := cdX1_work) (by rfl) [33] 30 (by exact Nat.le_of_ble_eq_true rfl) ?_
      simp (maxSteps := 2000000) only [go, stp, inS, ↓reduceIte, Bool.false_eq_true, Nat.reduceLT, Nat.reduceEqDiff, Nat.reduceAdd, ldI, ldL, ldA, st1, st2, okS, List.getElem?_cons_zero, List.getElem?_cons_succ, List.length_cons, List.length_nil, List.set_cons_zero, List.set_cons_succ, callP, callF, popN, ct, Value.category, cI, List.getD_cons_zero, List.getD_cons_succ, and_self, and_true, true_and, Nat.zero_le, Nat.reduceLeDiff, Nat.add_zero, Nat.zero_add, List.nil_append, List.cons_append, Option.toList_some, Option.toList_none, List.append_nil, hset_ss, true_or, or_true, eq_self, beq_self_eq_true, List.drop_succ_cons, List.drop_zero, swT, swL, hset_ap, not_true_eq_false, not_false_eq_true, true_implies, false_implies, implies_true, Int32.reduceLE, Int32.reduceLT, Int32.reduceAdd, Int32.reduceSub, Int32.reduceOfInt, Int32.reduceToNatClampNeg, i10, i01, Nat.add_left_cancel_iff, Nat.left_eq_add, Nat.add_eq_left, cdX1_work, F1, n0, (show h' t = _ from hE'.1), hX1'.1]
      refine X_isCompare hX1' (fun g hg => ?_)
      rw [gK hlt hac] at hg
      subst hg
      rw [cmB_if]
      refine go_ok okF1 (C := cdX1_work) (by rfl) [33, 65] 30 (by exact Nat.le_of_ble_eq_true rfl) ?_
      simp (maxSteps := 2000000) only [go, stp, inS, ↓reduceIte, Bool.false_eq_true, Nat.reduceLT, Nat.reduceEqDiff, Nat.reduceAdd, ldI, ldL, ldA, st1, st2, okS, List.getElem?_cons_zero, List.getElem?_cons_succ, List.length_cons, List.length_nil, List.set_cons_zero, List.set_cons_succ, callP, callF, popN, ct, Value.category, cI, List.getD_cons_zero, List.getD_cons_succ, and_self, and_true, true_and, Nat.zero_le, Nat.reduceLeDiff, Nat.add_zero, Nat.zero_add, List.nil_append, List.cons_append, Option.toList_some, Option.toList_none, List.append_nil, hset_ss, true_or, or_true, eq_self, beq_self_eq_true, List.drop_succ_cons, List.drop_zero, swT, swL, hset_ap, not_true_eq_false, not_false_eq_true, true_implies, false_implies, implies_true, Int32.reduceLE, Int32.reduceLT, Int32.reduceAdd, Int32.reduceSub, Int32.reduceOfInt, Int32.reduceToNatClampNeg, i10, i01, Nat.add_left_cancel_iff, Nat.left_eq_add, Nat.add_eq_left, cdX1_work, F1, (show h' t = _ from hE'.1), ib0]
      refine ⟨fun c1 => ?_, fun c1 => ?_⟩
      · refine E_joined (f := f) hE' (by omega) hX' hx hd2 hlt (fun q => c1 (cmB_iff.mpr q)) (v := fun r j => ev (bt dn) G ac L R f r j) (fun j h3 h4 => hW' j (by omega) h4) (fun r j _ => ev_le _ _) (fun h'' fi'' hE'' hf'' hO'' => ?_)
        exact fin h'' fi'' hE'' hO'' hf''
      · have hcm := cmB_iff.mp (Classical.not_not.mp c1)
        refine E_compared hE' hT' h1 h2 hX' hx hd1 hd2 hlt hcm (fun h'' fi'' hE'' hf'' hO'' => ?_)
        refine go_ok okF1 (C := cdX1_work) (by rfl) [33, 65] 30 (by exact Nat.le_of_ble_eq_true rfl) ?_
        simp (maxSteps := 2000000) only [go, stp, inS, ↓reduceIte, Bool.false_eq_true, Nat.reduceLT, Nat.reduceEqDiff, Nat.reduceAdd, ldI, ldL, ldA, st1, st2, okS, List.getElem?_cons_zero, List.getElem?_cons_succ, List.length_cons, List.length_nil, List.set_cons_zero, List.set_cons_succ, callP, callF, popN, ct, Value.category, cI, List.getD_cons_zero, List.getD_cons_succ, and_self, and_true, true_and, Nat.zero_le, Nat.reduceLeDiff, Nat.add_zero, Nat.zero_add, List.nil_append, List.cons_append, Option.toList_some, Option.toList_none, List.append_nil, hset_ss, true_or, or_true, eq_self, beq_self_eq_true, List.drop_succ_cons, List.drop_zero, swT, swL, hset_ap, not_true_eq_false, not_false_eq_true, true_implies, false_implies, implies_true, Int32.reduceLE, Int32.reduceLT, Int32.reduceAdd, Int32.reduceSub, Int32.reduceOfInt, Int32.reduceToNatClampNeg, i10, i01, Nat.add_left_cancel_iff, Nat.left_eq_add, Nat.add_eq_left, cdX1_work, F1]
        have he : ∀ r, evA (bt dn) G ac L R f r (ev (bt dn) G ac L R f r) m = vC (bt dn) (G m) (L m) (R m) (tv f r (L m)) (tv f r (R m)) := fun r => by unfold evA; rw [if_pos (Classical.not_not.mp c1)]
        have hff : firQ fi' fi'' (fun i => ∃ r, r < nr ∧ FR G ac L R f r (ev (bt dn) G ac L R f r) m i) := fun i hi => by
          rw [hf'' i hi]
          refine or_congr Iff.rfl ⟨fun ⟨r, h3, h4⟩ => ⟨r, h3, Or.inl ⟨Classical.not_not.mp c1, h4⟩⟩, fun ⟨r, h3, h4⟩ => ⟨r, h3, ?_⟩⟩
          unfold FR at h4
          rcases h4 with ⟨-, w⟩ | ⟨-, w, -⟩ | ⟨-, w, -⟩ | ⟨-, w, -⟩ | ⟨-, w, -⟩
          · exact w
          all_goals (rw [w] at hcm; unfold isCm at hcm; exact absurd hcm (by decide))
        have h9 := fin h'' fi'' hE'' hO'' hff
        simp only [he] at h9
        exact h9
  refine loop ac _ _ 0 W (Nat.le_refl _) (x_s1 _) ⟨hset_s _ _ _, ⟨a, b, c, d, e, ?_⟩, ?_⟩ (sOff.rf.set (by omega) (by omega)) (fun k h3 h4 => absurd h3 (by omega)) (fun i hi => ?_)
  · unfold SdAt; rw [hset_n _ _ (by omega)]; exact hS0
  · rw [hset_n _ _ (by omega)]; exact hW0
  · rw [b_0]
    simp
    intros; omega
end E5
