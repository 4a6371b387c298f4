
/-! the model: wrong -/
section ME2
variable {n : Nat} {h : aH} {Q : aQ} {M : MS} {c : Nat → Int32} {a : Nat → Nat → Int32} {l : Nat → Nat → Int64} {G L R f : Nat → Int32} {q : Nat} {s : pT}
theorem L_sz (hk : sOk s) (ha : askd c a f q) (hl : ld c a G L R s.1) (hA : sgA G L R (sG s) (sL s) (sR s) 0 0 s.1) {k : Nat} (hk2 : k < s.1) : sz G s.1 k = sz (sG s) s.1 k := by
  have hE : sgEq s.1 (sG s) (sL s) (sR s) (fun _ => 0) 0 0 G L R (fun _ => 0) 0 0 := ⟨fun j hj => (hA j hj).1, fun j hj hc => ⟨((hA j hj).2 hc).1, ((hA j hj).2 hc).2, rfl, rfl⟩⟩
  have := ev_seg (d := fun _ => false) hk.2.2.1 hl.2.2.1 hE (by omega) (by omega) (s.1 - k) k (Nat.le_refl _) hk2 (by rw [Nat.zero_add]; exact (sz_wf hk.2.2.1 _ k (Nat.le_refl _) hk2).2.1)
  rw [Nat.zero_add] at this
  exact this.1
theorem wrF_t (ok : MOk M) {t : Nat} (ht : t < 2) (hw : pwB (M.s t) = true) {w : Int32} : wrF M (sM M t) w = wrF M (M.s t) w := by
  have p1 : (sM M t).1 = (M.s t).1 := (pR_eq (len := M.len t) (ok.pr t ht)).1
  have hk := ok.sok ht hw
  have st : ∀ r k, k < (M.s t).1 → stB M (sM M t) r k = stB M (M.s t) r k := fun r k hk2 => by
    unfold stB
    have e := fun d => (evS_pR (f := M.f) (d := d) (r := r) (ok.pi t ht) (pwB_iff.mp hw) (ok.pr t ht) hk2).2
    rw [show sM M t = pS (M.B t) (M.len t) from rfl, e, e]
  have ow : ∀ r k, k < (M.s t).1 → owB M (sM M t) k r = owB M (M.s t) k r := fun r k hk2 => by
    unfold owB
    have hz := sz_wf hk.2.2.1 _ k (Nat.le_refl _) (by rw [p1]; exact hk2)
    rw [sz_t ok ht hw hk2] at hz
    rw [st r k hk2, sz_t ok ht hw hk2, anyB_ext (fun j hj => st r (k + 1 + j) (by omega))]
  unfold wrF
  rw [p1, fstR_ext (p' := fun k => anyB M.nr (owB M (M.s t) k)) (fun k _ hk2 => anyB_ext (fun r _ => ow r k (by omega)))]
  cases hf : fstR (fun k => anyB M.nr (owB M (M.s t) k)) (M.s t).1 0 with
  | none => rfl
  | some k =>
    dsimp only
    rw [fstR_ext (p' := owB M (M.s t) k) (fun r _ _ => ow r k (by have := fstR_in hf; omega))]
set_option maxRecDepth 100000 in
set_option maxHeartbeats 1000000 in
theorem D_wrong {x w : Int32} (m : MI h M) (ok : MOk M) (hq : ∀ h', MI h' M → sOff h h' 52 80 → Q (some (.int (stWrong M x w))) n h') : Ok 216 [.ref 52, .int x, .int w] n h Q := by
  unfold stWrong at hq
  have hnr := ok.nr
  have m0 := m
  obtain ⟨c0, a0, l0, m, r⟩ := m
  have le1 : (0 ≤ w ∧ w ≤ 1) ↔ (0 ≤ w ∧ w < 2) := by rw [lt_le (a := 2) (b := 1) (k := 1) rfl rfl]
  refine ok_of kMX11_wrong kCX11_wrong (Nat.le_of_ble_eq_true rfl) (fun z => ?_)
  change A z _ _ 0 0 _ 0 [some (.ref 52), some (.int x), some (.int w), none, none, none, none, none] [] _
  by_cases hx : 0 ≤ x ∧ x < 2
  · by_cases hw3 : 0 ≤ w ∧ w < 2
    · rw [if_pos ⟨hx, le1.mpr hw3⟩] at hq
      refine go_ok okF1 (C := cdX11_wrong) (by rfl) [] 40 (by exact Nat.le_of_ble_eq_true rfl) ?_
      simp (maxSteps := 2000000) only [go, stp, inS, ↓reduceIte, Bool.false_eq_true, Nat.reduceLT, Nat.reduceEqDiff, Nat.reduceAdd, ldI, ldL, ldA, st1, st2, okS, List.getElem?_cons_zero, List.getElem?_cons_succ, List.length_cons, List.length_nil, List.set_cons_zero, List.set_cons_succ, callP, callF, popN, ct, Value.category, cI, List.getD_cons_zero, List.getD_cons_succ, and_self, and_true, true_and, Nat.zero_le, Nat.reduceLeDiff, Nat.add_zero, Nat.zero_add, List.nil_append, List.cons_append, Option.toList_some, Option.toList_none, List.append_nil, hset_ss, true_or, or_true, eq_self, beq_self_eq_true, List.drop_succ_cons, List.drop_zero, swT, swL, hset_ap, not_true_eq_false, not_false_eq_true, true_implies, false_implies, implies_true, Int32.reduceLE, Int32.reduceLT, Int32.reduceAdd, Int32.reduceSub, Int32.reduceOfInt, Int32.reduceToNatClampNeg, i10, i01, Nat.add_left_cancel_iff, Nat.left_eq_add, Nat.add_eq_left, cdX11_wrong, F1, eq_true hx, in01, eq_true hw3, m.o]
      refine D_without m0 ok (fun e => absurd hx e) (fun t ht e hw h' m' o => ?_) (fun t ht e hw h1 c a l m1 k1 o1 => ?_)
      · subst e
        rw [i_cl (show t < 2147483648 by omega), if_neg hw] at hq
        refine go_ok okF1 (C := cdX11_wrong) (by rfl) [] 40 (by exact Nat.le_of_ble_eq_true rfl) ?_
        simp (maxSteps := 2000000) only [go, stp, inS, ↓reduceIte, Bool.false_eq_true, Nat.reduceLT, Nat.reduceEqDiff, Nat.reduceAdd, ldI, ldL, ldA, st1, st2, okS, List.getElem?_cons_zero, List.getElem?_cons_succ, List.length_cons, List.length_nil, List.set_cons_zero, List.set_cons_succ, callP, callF, popN, ct, Value.category, cI, List.getD_cons_zero, List.getD_cons_succ, and_self, and_true, true_and, Nat.zero_le, Nat.reduceLeDiff, Nat.add_zero, Nat.zero_add, List.nil_append, List.cons_append, Option.toList_some, Option.toList_none, List.append_nil, hset_ss, true_or, or_true, eq_self, beq_self_eq_true, List.drop_succ_cons, List.drop_zero, swT, swL, hset_ap, not_true_eq_false, not_false_eq_true, true_implies, false_implies, implies_true, Int32.reduceLE, Int32.reduceLT, Int32.reduceAdd, Int32.reduceSub, Int32.reduceOfInt, Int32.reduceToNatClampNeg, i10, i01, Nat.add_left_cancel_iff, Nat.left_eq_add, Nat.add_eq_left, cdX11_wrong, F1, m3n]
        exact hq h' m' o
      · subst e
        rw [i_cl (show t < 2147483648 by omega), if_pos hw, ← wrF_t ok ht hw] at hq
        have hk := ok.sok ht hw
        generalize sM M t = s at hq hk k1
        have h40 := hk.2.1
        obtain ⟨rd, as, G, L, R, hl, hA⟩ := k1
        have h12 : c 12 = nI s.1 := rd.2.2.1
        have dn : bt (dnE c true) = bt (M.ru &&& M.fa) := by unfold dnE; rw [if_pos rfl, rd.1.ru, rd.1.fa]
        have dn0 : bt (dnE c false) = bt 0 := rfl
        -- @big the search
        have find : ∀ h2 v a2, MH h2 (upd c 30 v) a2 l → (∀ i, i ≠ 31 → i ≠ 35 → i ≠ 36 → a2 i = a i) → (∀ r, r < M.nr → ∀ k, k < s.1 → a2 35 (40 * r + k) = nI (evS s M.f (bt 0) r k) ∧ a2 36 (40 * r + k) = nI (evS s M.f (bt (M.ru &&& M.fa)) r k)) → sOff h h2 52 80 → ∀ o3 l5 l6 l7, A z 216 n 0 0 h2 140 [some (.ref 52), some (.int (nI t)), some (.int w), some (.int 0), o3, l5, l6, l7] [] Q := by
          intro h2 v a2 m2 f2 e2 o2 o3 l5 l6 l7
          have fin := hq h2 ⟨_, _, _, m2, ((rd.sc 30 v (by omega)).sa a2 (fun i i1 i2 i3 i4 => f2 i (by omega) i3 i4)).1⟩ o2
          unfold wrF at fin
          have eq2 : ∀ r k, r < M.nr → k < s.1 → (nI (evS s M.f (bt 0) r k) = nI (evS s M.f (bt (M.ru &&& M.fa)) r k) ↔ stB M s r k = false) := fun r k hr hk2 => by
            have l1 : evS s M.f (bt 0) r k ≤ 2 := ev_le _ _
            have l2 : evS s M.f (bt (M.ru &&& M.fa)) r k ≤ 2 := ev_le _ _
            rw [i_eq (by omega) (by omega)]
            unfold stB
            simp
            exact eq_comm
          have a27 : ∀ k, k < s.1 → a2 27 k = nI (sz (sG s) s.1 k) := fun k hk2 => by rw [f2 27 (by omega) (by omega) (by omega), hl.2.2.2.2 k hk2, L_sz hk as hl hA hk2]
          have acts : ∀ u k l5 l6 l7, k + u = s.1 → fstR (fun k => anyB M.nr (owB M s k)) s.1 0 = fstR (fun k => anyB M.nr (owB M s k)) u k → A z 216 n 0 0 h2 143 [some (.ref 52), some (.int (nI t)), some (.int w), some (.int 0), some (.int (nI k)), l5, l6, l7] [] Q := by
            intro u
            induction u with
            | zero =>
              intro k l5 l6 l7 hu hf
              obtain rfl : k = s.1 := by omega
              refine go_ok okF1 (C := cdX11_wrong) (by rfl) [] 40 (by exact Nat.le_of_ble_eq_true rfl) ?_
              simp (maxSteps := 2000000) only [go, stp, inS, ↓reduceIte, Bool.false_eq_true, Nat.reduceLT, Nat.reduceEqDiff, Nat.reduceAdd, ldI, ldL, ldA, st1, st2, okS, List.getElem?_cons_zero, List.getElem?_cons_succ, List.length_cons, List.length_nil, List.set_cons_zero, List.set_cons_succ, callP, callF, popN, ct, Value.category, cI, List.getD_cons_zero, List.getD_cons_succ, and_self, and_true, true_and, Nat.zero_le, Nat.reduceLeDiff, Nat.add_zero, Nat.zero_add, List.nil_append, List.cons_append, Option.toList_some, Option.toList_none, List.append_nil, hset_ss, true_or, or_true, eq_self, beq_self_eq_true, List.drop_succ_cons, List.drop_zero, swT, swL, hset_ap, not_true_eq_false, not_false_eq_true, true_implies, false_implies, implies_true, Int32.reduceLE, Int32.reduceLT, Int32.reduceAdd, Int32.reduceSub, Int32.reduceOfInt, Int32.reduceToNatClampNeg, i10, i01, Nat.add_left_cancel_iff, Nat.left_eq_add, Nat.add_eq_left, cdX11_wrong, F1, m2.o, (show upd c 30 v 12 = nI s.1 from h12), (show nI s.1 ≤ nI s.1 from (i_le (by omega) (by omega)).mpr (by omega))]
              rw [hf] at fin
              exact fin
            | succ u ihu =>
              intro k l5 l6 l7 hu hf
              have e : ¬ nI s.1 ≤ nI k := by rw [i_le (by omega) (by omega)]; omega
              have hz := sz_wf hk.2.2.1 _ k (Nat.le_refl _) (show k < s.1 by omega)
              refine go_ok okF1 (C := cdX11_wrong) (by rfl) [155] 40 (by exact Nat.le_of_ble_eq_true rfl) ?_
              simp (maxSteps := 2000000) only [go, stp, inS, ↓reduceIte, Bool.false_eq_true, Nat.reduceLT, Nat.reduceEqDiff, Nat.reduceAdd, ldI, ldL, ldA, st1, st2, okS, List.getElem?_cons_zero, List.getElem?_cons_succ, List.length_cons, List.length_nil, List.set_cons_zero, List.set_cons_succ, callP, callF, popN, ct, Value.category, cI, List.getD_cons_zero, List.getD_cons_succ, and_self, and_true, true_and, Nat.zero_le, Nat.reduceLeDiff, Nat.add_zero, Nat.zero_add, List.nil_append, List.cons_append, Option.toList_some, Option.toList_none, List.append_nil, hset_ss, true_or, or_true, eq_self, beq_self_eq_true, List.drop_succ_cons, List.drop_zero, swT, swL, hset_ap, not_true_eq_false, not_false_eq_true, true_implies, false_implies, implies_true, Int32.reduceLE, Int32.reduceLT, Int32.reduceAdd, Int32.reduceSub, Int32.reduceOfInt, Int32.reduceToNatClampNeg, i10, i01, Nat.add_left_cancel_iff, Nat.left_eq_add, Nat.add_eq_left, cdX11_wrong, F1, m2.o, (show upd c 30 v 12 = nI s.1 from h12), e]
              have rows : ∀ u2 r l6 l7, r + u2 = M.nr → (∀ j, j < r → owB M s k j = false) → A z 216 n 0 0 h2 155 [some (.ref 52), some (.int (nI t)), some (.int w), some (.int 0), some (.int (nI k)), some (.int (nI r)), l6, l7] [] Q := by
                intro u2
                induction u2 with
                | zero =>
                  intro r l6 l7 hr hn
                  obtain rfl : r = M.nr := by omega
                  refine go_ok okF1 (C := cdX11_wrong) (by rfl) [143] 40 (by exact Nat.le_of_ble_eq_true rfl) ?_
                  simp (maxSteps := 2000000) only [go, stp, inS, ↓reduceIte, Bool.false_eq_true, Nat.reduceLT, Nat.reduceEqDiff, Nat.reduceAdd, ldI, ldL, ldA, st1, st2, okS, List.getElem?_cons_zero, List.getElem?_cons_succ, List.length_cons, List.length_nil, List.set_cons_zero, List.set_cons_succ, callP, callF, popN, ct, Value.category, cI, List.getD_cons_zero, List.getD_cons_succ, and_self, and_true, true_and, Nat.zero_le, Nat.reduceLeDiff, Nat.add_zero, Nat.zero_add, List.nil_append, List.cons_append, Option.toList_some, Option.toList_none, List.append_nil, hset_ss, true_or, or_true, eq_self, beq_self_eq_true, List.drop_succ_cons, List.drop_zero, swT, swL, hset_ap, not_true_eq_false, not_false_eq_true, true_implies, false_implies, implies_true, Int32.reduceLE, Int32.reduceLT, Int32.reduceAdd, Int32.reduceSub, Int32.reduceOfInt, Int32.reduceToNatClampNeg, i10, i01, Nat.add_left_cancel_iff, Nat.left_eq_add, Nat.add_eq_left, cdX11_wrong, F1, m2.o, (show upd c 30 v 7 = nI M.nr from as.1), (show nI M.nr ≤ nI M.nr from (i_le (by omega) (by omega)).mpr (by omega)), nI_1]
                  refine ihu (k + 1) _ _ _ (by omega) ?_
                  rw [hf, fstR_s, if_neg (fun w => by obtain ⟨j, h1, h2⟩ := anyB_iff.mp w; rw [hn j h1] at h2; cases h2)]
                | succ u2 ihu2 =>
                  intro r l6 l7 hr hn
                  have e2' : ¬ nI M.nr ≤ nI r := by rw [i_le (by omega) (by omega)]; omega
                  refine go_ok okF1 (C := cdX11_wrong) (by rfl) [173] 40 (by exact Nat.le_of_ble_eq_true rfl) ?_
                  simp (maxSteps := 2000000) only [go, stp, inS, ↓reduceIte, Bool.false_eq_true, Nat.reduceLT, Nat.reduceEqDiff, Nat.reduceAdd, ldI, ldL, ldA, st1, st2, okS, List.getElem?_cons_zero, List.getElem?_cons_succ, List.length_cons, List.length_nil, List.set_cons_zero, List.set_cons_succ, callP, callF, popN, ct, Value.category, cI, List.getD_cons_zero, List.getD_cons_succ, and_self, and_true, true_and, Nat.zero_le, Nat.reduceLeDiff, Nat.add_zero, Nat.zero_add, List.nil_append, List.cons_append, Option.toList_some, Option.toList_none, List.append_nil, hset_ss, true_or, or_true, eq_self, beq_self_eq_true, List.drop_succ_cons, List.drop_zero, swT, swL, hset_ap, not_true_eq_false, not_false_eq_true, true_implies, false_implies, implies_true, Int32.reduceLE, Int32.reduceLT, Int32.reduceAdd, Int32.reduceSub, Int32.reduceOfInt, Int32.reduceToNatClampNeg, i10, i01, Nat.add_left_cancel_iff, Nat.left_eq_add, Nat.add_eq_left, cdX11_wrong, F1, m2.o, (show upd c 30 v 7 = nI M.nr from as.1), e2', nI_1]
                  -- behind the parts
                  have last : ∀ b l7, b = (!(anyB (sz (sG s) s.1 k - 1) (fun j => stB M s r (k + 1 + j)))) → A z 216 n 0 0 h2 235 [some (.ref 52), some (.int (nI t)), some (.int w), some (.int 0), some (.int (nI k)), some (.int (nI r)), some (.int (if b = true then 1 else 0)), l7] [] Q := by
                    intro b l7 hb
                    have nxt : owB M s k r = false → ∀ l6 l7, A z 216 n 0 0 h2 281 [some (.ref 52), some (.int (nI t)), some (.int w), some (.int 0), some (.int (nI k)), some (.int (nI r)), l6, l7] [] Q := fun ho l6 l7 => by
                      refine go_ok okF1 (C := cdX11_wrong) (by rfl) [155] 40 (by exact Nat.le_of_ble_eq_true rfl) ?_
                      simp (maxSteps := 2000000) only [go, stp, inS, ↓reduceIte, Bool.false_eq_true, Nat.reduceLT, Nat.reduceEqDiff, Nat.reduceAdd, ldI, ldL, ldA, st1, st2, okS, List.getElem?_cons_zero, List.getElem?_cons_succ, List.length_cons, List.length_nil, List.set_cons_zero, List.set_cons_succ, callP, callF, popN, ct, Value.category, cI, List.getD_cons_zero, List.getD_cons_succ, and_self, and_true, true_and, Nat.zero_le, Nat.reduceLeDiff, Nat.add_zero, Nat.zero_add, List.nil_append, List.cons_append, Option.toList_some, Option.toList_none, List.append_nil, hset_ss, true_or, or_true, eq_self, beq_self_eq_true, List.drop_succ_cons, List.drop_zero, swT, swL, hset_ap, not_true_eq_false, not_false_eq_true, true_implies, false_implies, implies_true, Int32.reduceLE, Int32.reduceLT, Int32.reduceAdd, Int32.reduceSub, Int32.reduceOfInt, Int32.reduceToNatClampNeg, i10, i01, Nat.add_left_cancel_iff, Nat.left_eq_add, Nat.add_eq_left, cdX11_wrong, F1, nI_1]
                      refine ihu2 (r + 1) _ _ (by omega) (fun j hj => ?_)
                      by_cases ej : j = r
                      · subst ej; exact ho
                      · exact hn j (by omega)
                    have ow : owB M s k r = (stB M s r k && b) := by unfold owB; rw [hb]
                    cases b with
                    | false =>
                      refine go_ok okF1 (C := cdX11_wrong) (by rfl) [281] 40 (by exact Nat.le_of_ble_eq_true rfl) ?_
                      simp (maxSteps := 2000000) only [go, stp, inS, ↓reduceIte, Bool.false_eq_true, Nat.reduceLT, Nat.reduceEqDiff, Nat.reduceAdd, ldI, ldL, ldA, st1, st2, okS, List.getElem?_cons_zero, List.getElem?_cons_succ, List.length_cons, List.length_nil, List.set_cons_zero, List.set_cons_succ, callP, callF, popN, ct, Value.category, cI, List.getD_cons_zero, List.getD_cons_succ, and_self, and_true, true_and, Nat.zero_le, Nat.reduceLeDiff, Nat.add_zero, Nat.zero_add, List.nil_append, List.cons_append, Option.toList_some, Option.toList_none, List.append_nil, hset_ss, true_or, or_true, eq_self, beq_self_eq_true, List.drop_succ_cons, List.drop_zero, swT, swL, hset_ap, not_true_eq_false, not_false_eq_true, true_implies, false_implies, implies_true, Int32.reduceLE, Int32.reduceLT, Int32.reduceAdd, Int32.reduceSub, Int32.reduceOfInt, Int32.reduceToNatClampNeg, i10, i01, Nat.add_left_cancel_iff, Nat.left_eq_add, Nat.add_eq_left, cdX11_wrong, F1]
                      exact nxt (by rw [ow, Bool.and_false]) _ _
                    | true =>
                      obtain ⟨v1, v2⟩ := e2 r (by omega) k (by omega)
                      by_cases es : stB M s r k = false
                      · have q1 := (eq2 r k (by omega) (by omega)).mpr es
                        refine go_ok okF1 (C := cdX11_wrong) (by rfl) [281] 40 (by exact Nat.le_of_ble_eq_true rfl) ?_
                        simp (maxSteps := 2000000) only [go, stp, inS, ↓reduceIte, Bool.false_eq_true, Nat.reduceLT, Nat.reduceEqDiff, Nat.reduceAdd, ldI, ldL, ldA, st1, st2, okS, List.getElem?_cons_zero, List.getElem?_cons_succ, List.length_cons, List.length_nil, List.set_cons_zero, List.set_cons_succ, callP, callF, popN, ct, Value.category, cI, List.getD_cons_zero, List.getD_cons_succ, and_self, and_true, true_and, Nat.zero_le, Nat.reduceLeDiff, Nat.add_zero, Nat.zero_add, List.nil_append, List.cons_append, Option.toList_some, Option.toList_none, List.append_nil, hset_ss, true_or, or_true, eq_self, beq_self_eq_true, List.drop_succ_cons, List.drop_zero, swT, swL, hset_ap, not_true_eq_false, not_false_eq_true, true_implies, false_implies, implies_true, Int32.reduceLE, Int32.reduceLT, Int32.reduceAdd, Int32.reduceSub, Int32.reduceOfInt, Int32.reduceToNatClampNeg, i10, i01, Nat.add_left_cancel_iff, Nat.left_eq_add, Nat.add_eq_left, cdX11_wrong, F1, m2.o, m2.a35, m2.a36, ix40, i_cl (show 40 * r + k < 2147483648 by omega), v1, v2, q1]
                        repeat refine ⟨vp_in_nI (by omega) (by omega), ?_⟩
                        exact nxt (by rw [ow, es]; rfl) _ _
                      · have q1 : ¬ nI (evS s M.f (bt 0) r k) = nI (evS s M.f (bt (M.ru &&& M.fa)) r k) := fun w => es ((eq2 r k (by omega) (by omega)).mp w)
                        have ot : owB M s k r = true := by rw [ow, show stB M s r k = true from by simpa using es]; rfl
                        rw [hf, fstR_s, if_pos (anyB_iff.mpr ⟨r, by omega, ot⟩)] at fin
                        dsimp only at fin
                        rw [fstR_of (k := r) (by omega) (by omega) ot (fun j _ hj => hn j hj)] at fin
                        dsimp only at fin
                        by_cases w0 : w = 0
                        · subst w0
                          refine go_ok okF1 (C := cdX11_wrong) (by rfl) [] 40 (by exact Nat.le_of_ble_eq_true rfl) ?_
                          simp (maxSteps := 2000000) only [go, stp, inS, ↓reduceIte, Bool.false_eq_true, Nat.reduceLT, Nat.reduceEqDiff, Nat.reduceAdd, ldI, ldL, ldA, st1, st2, okS, List.getElem?_cons_zero, List.getElem?_cons_succ, List.length_cons, List.length_nil, List.set_cons_zero, List.set_cons_succ, callP, callF, popN, ct, Value.category, cI, List.getD_cons_zero, List.getD_cons_succ, and_self, and_true, true_and, Nat.zero_le, Nat.reduceLeDiff, Nat.add_zero, Nat.zero_add, List.nil_append, List.cons_append, Option.toList_some, Option.toList_none, List.append_nil, hset_ss, true_or, or_true, eq_self, beq_self_eq_true, List.drop_succ_cons, List.drop_zero, swT, swL, hset_ap, not_true_eq_false, not_false_eq_true, true_implies, false_implies, implies_true, Int32.reduceLE, Int32.reduceLT, Int32.reduceAdd, Int32.reduceSub, Int32.reduceOfInt, Int32.reduceToNatClampNeg, i10, i01, Nat.add_left_cancel_iff, Nat.left_eq_add, Nat.add_eq_left, cdX11_wrong, F1, m2.o, m2.a35, m2.a36, ix40, i_cl (show 40 * r + k < 2147483648 by omega), v1, v2, q1]
                          repeat refine ⟨vp_in_nI (by omega) (by omega), ?_⟩
                          exact fin
                        · rw [if_neg w0] at fin
                          refine go_ok okF1 (C := cdX11_wrong) (by rfl) [] 40 (by exact Nat.le_of_ble_eq_true rfl) ?_
                          simp (maxSteps := 2000000) only [go, stp, inS, ↓reduceIte, Bool.false_eq_true, Nat.reduceLT, Nat.reduceEqDiff, Nat.reduceAdd, ldI, ldL, ldA, st1, st2, okS, List.getElem?_cons_zero, List.getElem?_cons_succ, List.length_cons, List.length_nil, List.set_cons_zero, List.set_cons_succ, callP, callF, popN, ct, Value.category, cI, List.getD_cons_zero, List.getD_cons_succ, and_self, and_true, true_and, Nat.zero_le, Nat.reduceLeDiff, Nat.add_zero, Nat.zero_add, List.nil_append, List.cons_append, Option.toList_some, Option.toList_none, List.append_nil, hset_ss, true_or, or_true, eq_self, beq_self_eq_true, List.drop_succ_cons, List.drop_zero, swT, swL, hset_ap, not_true_eq_false, not_false_eq_true, true_implies, false_implies, implies_true, Int32.reduceLE, Int32.reduceLT, Int32.reduceAdd, Int32.reduceSub, Int32.reduceOfInt, Int32.reduceToNatClampNeg, i10, i01, Nat.add_left_cancel_iff, Nat.left_eq_add, Nat.add_eq_left, cdX11_wrong, F1, m2.o, m2.a35, m2.a36, ix40, i_cl (show 40 * r + k < 2147483648 by omega), v1, v2, q1, w0]
                          repeat refine ⟨vp_in_nI (by omega) (by omega), ?_⟩
                          exact fin
                  have parts : ∀ u3 j b, j + u3 = sz (sG s) s.1 k - 1 → b = (!(anyB j (fun j => stB M s r (k + 1 + j)))) → A z 216 n 0 0 h2 173 [some (.ref 52), some (.int (nI t)), some (.int w), some (.int 0), some (.int (nI k)), some (.int (nI r)), some (.int (if b = true then 1 else 0)), some (.int (nI (k + 1 + j)))] [] Q := by
                    intro u3
                    induction u3 with
                    | zero =>
                      intro j b hj hb
                      refine go_ok okF1 (C := cdX11_wrong) (by rfl) [235] 40 (by exact Nat.le_of_ble_eq_true rfl) ?_
                      simp (maxSteps := 2000000) only [go, stp, inS, ↓reduceIte, Bool.false_eq_true, Nat.reduceLT, Nat.reduceEqDiff, Nat.reduceAdd, ldI, ldL, ldA, st1, st2, okS, List.getElem?_cons_zero, List.getElem?_cons_succ, List.length_cons, List.length_nil, List.set_cons_zero, List.set_cons_succ, callP, callF, popN, ct, Value.category, cI, List.getD_cons_zero, List.getD_cons_succ, and_self, and_true, true_and, Nat.zero_le, Nat.reduceLeDiff, Nat.add_zero, Nat.zero_add, List.nil_append, List.cons_append, Option.toList_some, Option.toList_none, List.append_nil, hset_ss, true_or, or_true, eq_self, beq_self_eq_true, List.drop_succ_cons, List.drop_zero, swT, swL, hset_ap, not_true_eq_false, not_false_eq_true, true_implies, false_implies, implies_true, Int32.reduceLE, Int32.reduceLT, Int32.reduceAdd, Int32.reduceSub, Int32.reduceOfInt, Int32.reduceToNatClampNeg, i10, i01, Nat.add_left_cancel_iff, Nat.left_eq_add, Nat.add_eq_left, cdX11_wrong, F1, m2.o, m2.a27, i_cl (show k < 2147483648 by omega), a27 k (by omega), nI_add, (show nI (k + sz (sG s) s.1 k) ≤ nI (k + 1 + j) from (i_le (by omega) (by omega)).mpr (by omega))]
                      repeat refine ⟨vp_in_nI (by omega) (by omega), ?_⟩
                      exact last b _ (by rw [hb, show j = sz (sG s) s.1 k - 1 by omega])
                    | succ u3 ihu3 =>
                      intro j b hj hb
                      have e3 : ¬ nI (k + sz (sG s) s.1 k) ≤ nI (k + 1 + j) := by rw [i_le (by omega) (by omega)]; omega
                      have nn := fun b' => ihu3 (j + 1) b' (by omega)
                      rw [anyB] at nn
                      cases b with
                      | false =>
                        have := nn false (by
                          cases ha : anyB j (fun j => stB M s r (k + 1 + j))
                          · rw [ha] at hb; cases hb
                          · rfl)
                        refine go_ok okF1 (C := cdX11_wrong) (by rfl) [173] 40 (by exact Nat.le_of_ble_eq_true rfl) ?_
                        simp (maxSteps := 2000000) only [go, stp, inS, ↓reduceIte, Bool.false_eq_true, Nat.reduceLT, Nat.reduceEqDiff, Nat.reduceAdd, ldI, ldL, ldA, st1, st2, okS, List.getElem?_cons_zero, List.getElem?_cons_succ, List.length_cons, List.length_nil, List.set_cons_zero, List.set_cons_succ, callP, callF, popN, ct, Value.category, cI, List.getD_cons_zero, List.getD_cons_succ, and_self, and_true, true_and, Nat.zero_le, Nat.reduceLeDiff, Nat.add_zero, Nat.zero_add, List.nil_append, List.cons_append, Option.toList_some, Option.toList_none, List.append_nil, hset_ss, true_or, or_true, eq_self, beq_self_eq_true, List.drop_succ_cons, List.drop_zero, swT, swL, hset_ap, not_true_eq_false, not_false_eq_true, true_implies, false_implies, implies_true, Int32.reduceLE, Int32.reduceLT, Int32.reduceAdd, Int32.reduceSub, Int32.reduceOfInt, Int32.reduceToNatClampNeg, i10, i01, Nat.add_left_cancel_iff, Nat.left_eq_add, Nat.add_eq_left, cdX11_wrong, F1, m2.o, m2.a27, i_cl (show k < 2147483648 by omega), a27 k (by omega), nI_add, e3, nI_1]
                        repeat refine ⟨vp_in_nI (by omega) (by omega), ?_⟩
                        exact this
                      | true =>
                        have ha : anyB j (fun j => stB M s r (k + 1 + j)) = false := by
                          cases ha : anyB j (fun j => stB M s r (k + 1 + j))
                          · rfl
                          · rw [ha] at hb; cases hb
                        rw [ha] at nn
                        obtain ⟨v1, v2⟩ := e2 r (by omega) (k + 1 + j) (by omega)
                        by_cases es : stB M s r (k + 1 + j) = false
                        · have q1 := (eq2 r (k + 1 + j) (by omega) (by omega)).mpr es
                          have := nn true (by rw [es]; rfl)
                          refine go_ok okF1 (C := cdX11_wrong) (by rfl) [173] 60 (by exact Nat.le_of_ble_eq_true rfl) ?_
                          simp (maxSteps := 2000000) only [go, stp, inS, ↓reduceIte, Bool.false_eq_true, Nat.reduceLT, Nat.reduceEqDiff, Nat.reduceAdd, ldI, ldL, ldA, st1, st2, okS, List.getElem?_cons_zero, List.getElem?_cons_succ, List.length_cons, List.length_nil, List.set_cons_zero, List.set_cons_succ, callP, callF, popN, ct, Value.category, cI, List.getD_cons_zero, List.getD_cons_succ, and_self, and_true, true_and, Nat.zero_le, Nat.reduceLeDiff, Nat.add_zero, Nat.zero_add, List.nil_append, List.cons_append, Option.toList_some, Option.toList_none, List.append_nil, hset_ss, true_or, or_true, eq_self, beq_self_eq_true, List.drop_succ_cons, List.drop_zero, swT, swL, hset_ap, not_true_eq_false, not_false_eq_true, true_implies, false_implies, implies_true, Int32.reduceLE, Int32.reduceLT, Int32.reduceAdd, Int32.reduceSub, Int32.reduceOfInt, Int32.reduceToNatClampNeg, i10, i01, Nat.add_left_cancel_iff, Nat.left_eq_add, Nat.add_eq_left, cdX11_wrong, F1, m2.o, m2.a27, i_cl (show k < 2147483648 by omega), a27 k (by omega), e3, m2.a35, m2.a36, ix40, nI_add, i_cl (show 40 * r + (k + 1 + j) < 2147483648 by omega), v1, v2, q1, nI_1]
                          repeat refine ⟨vp_in_nI (by omega) (by omega), ?_⟩
                          exact this
                        · have q1 : ¬ nI (evS s M.f (bt 0) r (k + 1 + j)) = nI (evS s M.f (bt (M.ru &&& M.fa)) r (k + 1 + j)) := fun w => es ((eq2 r (k + 1 + j) (by omega) (by omega)).mp w)
                          have := nn false (by rw [show stB M s r (k + 1 + j) = true from by simpa using es]; rfl)
                          refine go_ok okF1 (C := cdX11_wrong) (by rfl) [173] 60 (by exact Nat.le_of_ble_eq_true rfl) ?_
                          simp (maxSteps := 2000000) only [go, stp, inS, ↓reduceIte, Bool.false_eq_true, Nat.reduceLT, Nat.reduceEqDiff, Nat.reduceAdd, ldI, ldL, ldA, st1, st2, okS, List.getElem?_cons_zero, List.getElem?_cons_succ, List.length_cons, List.length_nil, List.set_cons_zero, List.set_cons_succ, callP, callF, popN, ct, Value.category, cI, List.getD_cons_zero, List.getD_cons_succ, and_self, and_true, true_and, Nat.zero_le, Nat.reduceLeDiff, Nat.add_zero, Nat.zero_add, List.nil_append, List.cons_append, Option.toList_some, Option.toList_none, List.append_nil, hset_ss, true_or, or_true, eq_self, beq_self_eq_true, List.drop_succ_cons, List.drop_zero, swT, swL, hset_ap, not_true_eq_false, not_false_eq_true, true_implies, false_implies, implies_true, Int32.reduceLE, Int32.reduceLT, Int32.reduceAdd, Int32.reduceSub, Int32.reduceOfInt, Int32.reduceToNatClampNeg, i10, i01, Nat.add_left_cancel_iff, Nat.left_eq_add, Nat.add_eq_left, cdX11_wrong, F1, m2.o, m2.a27, i_cl (show k < 2147483648 by omega), a27 k (by omega), e3, m2.a35, m2.a36, ix40, nI_add, i_cl (show 40 * r + (k + 1 + j) < 2147483648 by omega), v1, v2, q1, nI_1]
                          repeat refine ⟨vp_in_nI (by omega) (by omega), ?_⟩
                          exact this
                  exact parts (sz (sG s) s.1 k - 1) 0 true (by omega) (by simp [anyB])
              exact rows M.nr 0 _ _ (by omega) (fun j hj => absurd hj (by omega))
          refine go_ok okF1 (C := cdX11_wrong) (by rfl) [143] 40 (by exact Nat.le_of_ble_eq_true rfl) ?_
          simp (maxSteps := 2000000) only [go, stp, inS, ↓reduceIte, Bool.false_eq_true, Nat.reduceLT, Nat.reduceEqDiff, Nat.reduceAdd, ldI, ldL, ldA, st1, st2, okS, List.getElem?_cons_zero, List.getElem?_cons_succ, List.length_cons, List.length_nil, List.set_cons_zero, List.set_cons_succ, callP, callF, popN, ct, Value.category, cI, List.getD_cons_zero, List.getD_cons_succ, and_self, and_true, true_and, Nat.zero_le, Nat.reduceLeDiff, Nat.add_zero, Nat.zero_add, List.nil_append, List.cons_append, Option.toList_some, Option.toList_none, List.append_nil, hset_ss, true_or, or_true, eq_self, beq_self_eq_true, List.drop_succ_cons, List.drop_zero, swT, swL, hset_ap, not_true_eq_false, not_false_eq_true, true_implies, false_implies, implies_true, Int32.reduceLE, Int32.reduceLT, Int32.reduceAdd, Int32.reduceSub, Int32.reduceOfInt, Int32.reduceToNatClampNeg, i10, i01, Nat.add_left_cancel_iff, Nat.left_eq_add, Nat.add_eq_left, cdX11_wrong, F1]
          exact acts s.1 0 _ _ _ (by omega) rfl
        have fill : ∀ u r h2 v a2 l5 l6 l7, r + u = M.nr → MH h2 (upd c 30 v) a2 l → (∀ i, i ≠ 31 → i ≠ 35 → i ≠ 36 → a2 i = a i) → (∀ r', r' < r → ∀ k, k < s.1 → a2 35 (40 * r' + k) = nI (evS s M.f (bt 0) r' k) ∧ a2 36 (40 * r' + k) = nI (evS s M.f (bt (M.ru &&& M.fa)) r' k)) → sOff h h2 52 80 → A z 216 n 0 0 h2 35 [some (.ref 52), some (.int (nI t)), some (.int w), some (.int 0), some (.int (nI r)), l5, l6, l7] [] Q := by
          intro u
          induction u with
          | zero =>
            intro r h2 v a2 l5 l6 l7 hu m2 f2 e2 o2
            obtain rfl : r = M.nr := by omega
            refine go_ok okF1 (C := cdX11_wrong) (by rfl) [140] 40 (by exact Nat.le_of_ble_eq_true rfl) ?_
            simp (maxSteps := 2000000) only [go, stp, inS, ↓reduceIte, Bool.false_eq_true, Nat.reduceLT, Nat.reduceEqDiff, Nat.reduceAdd, ldI, ldL, ldA, st1, st2, okS, List.getElem?_cons_zero, List.getElem?_cons_succ, List.length_cons, List.length_nil, List.set_cons_zero, List.set_cons_succ, callP, callF, popN, ct, Value.category, cI, List.getD_cons_zero, List.getD_cons_succ, and_self, and_true, true_and, Nat.zero_le, Nat.reduceLeDiff, Nat.add_zero, Nat.zero_add, List.nil_append, List.cons_append, Option.toList_some, Option.toList_none, List.append_nil, hset_ss, true_or, or_true, eq_self, beq_self_eq_true, List.drop_succ_cons, List.drop_zero, swT, swL, hset_ap, not_true_eq_false, not_false_eq_true, true_implies, false_implies, implies_true, Int32.reduceLE, Int32.reduceLT, Int32.reduceAdd, Int32.reduceSub, Int32.reduceOfInt, Int32.reduceToNatClampNeg, i10, i01, Nat.add_left_cancel_iff, Nat.left_eq_add, Nat.add_eq_left, cdX11_wrong, F1, m2.o, (show upd c 30 v 7 = nI M.nr from as.1), (show nI M.nr ≤ nI M.nr from (i_le (by omega) (by omega)).mpr (by omega))]
            exact find h2 v a2 m2 f2 e2 o2 _ _ _ _
          | succ u ihu =>
            intro r h2 v a2 l5 l6 l7 hu m2 f2 e2 o2
            have e : ¬ nI M.nr ≤ nI r := by rw [i_le (by omega) (by omega)]; omega
            have ldf : ∀ (v : Int32) (a3 : Nat → Nat → Int32), (∀ i, i ≠ 31 → i ≠ 35 → i ≠ 36 → a3 i = a i) → ld (upd c 30 v) a3 G L R s.1 := fun v a3 f3 => hl.fr rfl (fun i i1 i2 => f3 i (by omega) (by omega) (by omega))
            have val : ∀ (eng : Bool) (v : Int32) (a3 : Nat → Nat → Int32), (∀ i, i ≠ 31 → i ≠ 35 → i ≠ 36 → a3 i = a i) → ∀ k, k < s.1 → ev (bt (dnE (upd c 30 v) eng)) G s.1 L R (a3 8) r k = evS s M.f (bt (dnE c eng)) r k := fun eng v a3 f3 k hk2 => by
              rw [f3 8 (by omega) (by omega) (by omega)]
              exact L_ev hk as hl hA (by omega) hk2
            refine go_ok okF1 (C := cdX11_wrong) (by rfl) [] 40 (by exact Nat.le_of_ble_eq_true rfl) ?_
            simp (maxSteps := 2000000) only [go, stp, inS, ↓reduceIte, Bool.false_eq_true, Nat.reduceLT, Nat.reduceEqDiff, Nat.reduceAdd, ldI, ldL, ldA, st1, st2, okS, List.getElem?_cons_zero, List.getElem?_cons_succ, List.length_cons, List.length_nil, List.set_cons_zero, List.set_cons_succ, callP, callF, popN, ct, Value.category, cI, List.getD_cons_zero, List.getD_cons_succ, and_self, and_true, true_and, Nat.zero_le, Nat.reduceLeDiff, Nat.add_zero, Nat.zero_add, List.nil_append, List.cons_append, Option.toList_some, Option.toList_none, List.append_nil, hset_ss, true_or, or_true, eq_self, beq_self_eq_true, List.drop_succ_cons, List.drop_zero, swT, swL, hset_ap, not_true_eq_false, not_false_eq_true, true_implies, false_implies, implies_true, Int32.reduceLE, Int32.reduceLT, Int32.reduceAdd, Int32.reduceSub, Int32.reduceOfInt, Int32.reduceToNatClampNeg, i10, i01, Nat.add_left_cancel_iff, Nat.left_eq_add, Nat.add_eq_left, cdX11_wrong, F1, m2.o, (show upd c 30 v 7 = nI M.nr from as.1), e]
            refine D_goes (eng := false) m2 (ldf v a2 f2) (show r < 8 by omega) (fun h3 v3 g3 m3 hg3 _ o3 => ?_)
            rw [updupd] at m3
            refine go_ok okF1 (C := cdX11_wrong) (by rfl) [54] 40 (by exact Nat.le_of_ble_eq_true rfl) ?_
            simp (maxSteps := 2000000) only [go, stp, inS, ↓reduceIte, Bool.false_eq_true, Nat.reduceLT, Nat.reduceEqDiff, Nat.reduceAdd, ldI, ldL, ldA, st1, st2, okS, List.getElem?_cons_zero, List.getElem?_cons_succ, List.length_cons, List.length_nil, List.set_cons_zero, List.set_cons_succ, callP, callF, popN, ct, Value.category, cI, List.getD_cons_zero, List.getD_cons_succ, and_self, and_true, true_and, Nat.zero_le, Nat.reduceLeDiff, Nat.add_zero, Nat.zero_add, List.nil_append, List.cons_append, Option.toList_some, Option.toList_none, List.append_nil, hset_ss, true_or, or_true, eq_self, beq_self_eq_true, List.drop_succ_cons, List.drop_zero, swT, swL, hset_ap, not_true_eq_false, not_false_eq_true, true_implies, false_implies, implies_true, Int32.reduceLE, Int32.reduceLT, Int32.reduceAdd, Int32.reduceSub, Int32.reduceOfInt, Int32.reduceToNatClampNeg, i10, i01, Nat.add_left_cancel_iff, Nat.left_eq_add, Nat.add_eq_left, cdX11_wrong, F1]
            have cp2 : ∀ u2 k h4 v4 a4 l6 l7, k + u2 = s.1 → MH h4 (upd c 30 v4) a4 l → (∀ i, i ≠ 31 → i ≠ 35 → i ≠ 36 → a4 i = a i) → (∀ r', r' < r → ∀ k, k < s.1 → a4 35 (40 * r' + k) = nI (evS s M.f (bt 0) r' k) ∧ a4 36 (40 * r' + k) = nI (evS s M.f (bt (M.ru &&& M.fa)) r' k)) → (∀ k', k' < s.1 → a4 35 (40 * r + k') = nI (evS s M.f (bt 0) r k')) → (∀ k', k' < s.1 → a4 31 k' = nI (evS s M.f (bt (M.ru &&& M.fa)) r k')) → (∀ k', k' < k → a4 36 (40 * r + k') = nI (evS s M.f (bt (M.ru &&& M.fa)) r k')) → sOff h h4 52 80 → A z 216 n 0 0 h4 99 [some (.ref 52), some (.int (nI t)), some (.int w), some (.int 0), some (.int (nI r)), some (.int (nI k)), l6, l7] [] Q := by
              intro u2
              induction u2 with
              | zero =>
                intro k h4 v4 a4 l6 l7 hu2 m4 f4 e4 p4 q4 s4 o4
                obtain rfl : k = s.1 := by omega
                refine go_ok okF1 (C := cdX11_wrong) (by rfl) [35] 40 (by exact Nat.le_of_ble_eq_true rfl) ?_
                simp (maxSteps := 2000000) only [go, stp, inS, ↓reduceIte, Bool.false_eq_true, Nat.reduceLT, Nat.reduceEqDiff, Nat.reduceAdd, ldI, ldL, ldA, st1, st2, okS, List.getElem?_cons_zero, List.getElem?_cons_succ, List.length_cons, List.length_nil, List.set_cons_zero, List.set_cons_succ, callP, callF, popN, ct, Value.category, cI, List.getD_cons_zero, List.getD_cons_succ, and_self, and_true, true_and, Nat.zero_le, Nat.reduceLeDiff, Nat.add_zero, Nat.zero_add, List.nil_append, List.cons_append, Option.toList_some, Option.toList_none, List.append_nil, hset_ss, true_or, or_true, eq_self, beq_self_eq_true, List.drop_succ_cons, List.drop_zero, swT, swL, hset_ap, not_true_eq_false, not_false_eq_true, true_implies, false_implies, implies_true, Int32.reduceLE, Int32.reduceLT, Int32.reduceAdd, Int32.reduceSub, Int32.reduceOfInt, Int32.reduceToNatClampNeg, i10, i01, Nat.add_left_cancel_iff, Nat.left_eq_add, Nat.add_eq_left, cdX11_wrong, F1, m4.o, (show upd c 30 v4 12 = nI s.1 from h12), (show nI s.1 ≤ nI s.1 from (i_le (by omega) (by omega)).mpr (by omega)), nI_1]
                refine ihu (r + 1) h4 v4 a4 _ _ _ (by omega) m4 f4 (fun r' hr' k hk2 => ?_) o4
                by_cases er : r' = r
                · subst er; exact ⟨p4 k hk2, s4 k hk2⟩
                · exact e4 r' (by omega) k hk2
              | succ u2 ihu2 =>
                intro k h4 v4 a4 l6 l7 hu2 m4 f4 e4 p4 q4 s4 o4
                have e5 : ¬ nI s.1 ≤ nI k := by rw [i_le (by omega) (by omega)]; omega
                refine go_ok okF1 (C := cdX11_wrong) (by rfl) [99] 40 (by exact Nat.le_of_ble_eq_true rfl) ?_
                simp (maxSteps := 2000000) only [go, stp, inS, ↓reduceIte, Bool.false_eq_true, Nat.reduceLT, Nat.reduceEqDiff, Nat.reduceAdd, ldI, ldL, ldA, st1, st2, okS, List.getElem?_cons_zero, List.getElem?_cons_succ, List.length_cons, List.length_nil, List.set_cons_zero, List.set_cons_succ, callP, callF, popN, ct, Value.category, cI, List.getD_cons_zero, List.getD_cons_succ, and_self, and_true, true_and, Nat.zero_le, Nat.reduceLeDiff, Nat.add_zero, Nat.zero_add, List.nil_append, List.cons_append, Option.toList_some, Option.toList_none, List.append_nil, hset_ss, true_or, or_true, eq_self, beq_self_eq_true, List.drop_succ_cons, List.drop_zero, swT, swL, hset_ap, not_true_eq_false, not_false_eq_true, true_implies, false_implies, implies_true, Int32.reduceLE, Int32.reduceLT, Int32.reduceAdd, Int32.reduceSub, Int32.reduceOfInt, Int32.reduceToNatClampNeg, i10, i01, Nat.add_left_cancel_iff, Nat.left_eq_add, Nat.add_eq_left, cdX11_wrong, F1, m4.o, (show upd c 30 v4 12 = nI s.1 from h12), e5, m4.a36, m4.a31, ix40, i_cl (show 40 * r + k < 2147483648 by omega), i_cl (show k < 2147483648 by omega), q4 k (by omega), nI_1]
                repeat refine ⟨vp_in_nI (by omega) (by omega), ?_⟩
                refine ihu2 (k + 1) _ v4 _ _ _ (by omega) (m4.s36 (upd (a4 36) (40 * r + k) (nI (evS s M.f (bt (M.ru &&& M.fa)) r k)))) (fun i i1 i2 i3 => by rw [fset_n _ _ i3]; exact f4 i i1 i2 i3) (fun r' hr' k' hk' => ⟨(e4 r' hr' k' hk').1, ?_⟩) p4 q4 (fun k' hk' => ?_) (o4.set (by omega) (by omega))
                · show upd (a4 36) (40 * r + k) _ (40 * r' + k') = _
                  rw [pk_un (by omega)]; exact (e4 r' hr' k' hk').2
                · show upd (a4 36) (40 * r + k) _ (40 * r + k') = _
                  by_cases ek : k' = k
                  · subst ek; rw [pk_us]
                  · rw [pk_un (by omega)]; exact s4 k' (by omega)
            have cp1 : ∀ u2 k h4 v4 a4 l6 l7, k + u2 = s.1 → MH h4 (upd c 30 v4) a4 l → (∀ i, i ≠ 31 → i ≠ 35 → i ≠ 36 → a4 i = a i) → (∀ r', r' < r → ∀ k, k < s.1 → a4 35 (40 * r' + k) = nI (evS s M.f (bt 0) r' k) ∧ a4 36 (40 * r' + k) = nI (evS s M.f (bt (M.ru &&& M.fa)) r' k)) → (∀ k', k' < s.1 → a4 31 k' = nI (evS s M.f (bt 0) r k')) → (∀ k', k' < k → a4 35 (40 * r + k') = nI (evS s M.f (bt 0) r k')) → sOff h h4 52 80 → A z 216 n 0 0 h4 54 [some (.ref 52), some (.int (nI t)), some (.int w), some (.int 0), some (.int (nI r)), some (.int (nI k)), l6, l7] [] Q := by
              intro u2
              induction u2 with
              | zero =>
                intro k h4 v4 a4 l6 l7 hu2 m4 f4 e4 q4 s4 o4
                obtain rfl : k = s.1 := by omega
                refine go_ok okF1 (C := cdX11_wrong) (by rfl) [] 40 (by exact Nat.le_of_ble_eq_true rfl) ?_
                simp (maxSteps := 2000000) only [go, stp, inS, ↓reduceIte, Bool.false_eq_true, Nat.reduceLT, Nat.reduceEqDiff, Nat.reduceAdd, ldI, ldL, ldA, st1, st2, okS, List.getElem?_cons_zero, List.getElem?_cons_succ, List.length_cons, List.length_nil, List.set_cons_zero, List.set_cons_succ, callP, callF, popN, ct, Value.category, cI, List.getD_cons_zero, List.getD_cons_succ, and_self, and_true, true_and, Nat.zero_le, Nat.reduceLeDiff, Nat.add_zero, Nat.zero_add, List.nil_append, List.cons_append, Option.toList_some, Option.toList_none, List.append_nil, hset_ss, true_or, or_true, eq_self, beq_self_eq_true, List.drop_succ_cons, List.drop_zero, swT, swL, hset_ap, not_true_eq_false, not_false_eq_true, true_implies, false_implies, implies_true, Int32.reduceLE, Int32.reduceLT, Int32.reduceAdd, Int32.reduceSub, Int32.reduceOfInt, Int32.reduceToNatClampNeg, i10, i01, Nat.add_left_cancel_iff, Nat.left_eq_add, Nat.add_eq_left, cdX11_wrong, F1, m4.o, (show upd c 30 v4 12 = nI s.1 from h12), (show nI s.1 ≤ nI s.1 from (i_le (by omega) (by omega)).mpr (by omega))]
                refine D_goes (eng := true) m4 (ldf v4 a4 f4) (show r < 8 by omega) (fun h5 v5 g5 m5 hg5 _ o5 => ?_)
                rw [updupd] at m5
                refine go_ok okF1 (C := cdX11_wrong) (by rfl) [99] 40 (by exact Nat.le_of_ble_eq_true rfl) ?_
                simp (maxSteps := 2000000) only [go, stp, inS, ↓reduceIte, Bool.false_eq_true, Nat.reduceLT, Nat.reduceEqDiff, Nat.reduceAdd, ldI, ldL, ldA, st1, st2, okS, List.getElem?_cons_zero, List.getElem?_cons_succ, List.length_cons, List.length_nil, List.set_cons_zero, List.set_cons_succ, callP, callF, popN, ct, Value.category, cI, List.getD_cons_zero, List.getD_cons_succ, and_self, and_true, true_and, Nat.zero_le, Nat.reduceLeDiff, Nat.add_zero, Nat.zero_add, List.nil_append, List.cons_append, Option.toList_some, Option.toList_none, List.append_nil, hset_ss, true_or, or_true, eq_self, beq_self_eq_true, List.drop_succ_cons, List.drop_zero, swT, swL, hset_ap, not_true_eq_false, not_false_eq_true, true_implies, false_implies, implies_true, Int32.reduceLE, Int32.reduceLT, Int32.reduceAdd, Int32.reduceSub, Int32.reduceOfInt, Int32.reduceToNatClampNeg, i10, i01, Nat.add_left_cancel_iff, Nat.left_eq_add, Nat.add_eq_left, cdX11_wrong, F1]
                exact cp2 s.1 0 h5 v5 _ _ _ (by omega) m5 (fun i i1 i2 i3 => by rw [fset_n _ _ i1]; exact f4 i i1 i2 i3) e4 s4 (fun k' hk' => by show g5 k' = _; rw [hg5 k' hk', val true v4 a4 f4 k' hk', dn]) (fun k' hk' => absurd hk' (by omega)) (o4.tr o5)
              | succ u2 ihu2 =>
                intro k h4 v4 a4 l6 l7 hu2 m4 f4 e4 q4 s4 o4
                have e5 : ¬ nI s.1 ≤ nI k := by rw [i_le (by omega) (by omega)]; omega
                refine go_ok okF1 (C := cdX11_wrong) (by rfl) [54] 40 (by exact Nat.le_of_ble_eq_true rfl) ?_
                simp (maxSteps := 2000000) only [go, stp, inS, ↓reduceIte, Bool.false_eq_true, Nat.reduceLT, Nat.reduceEqDiff, Nat.reduceAdd, ldI, ldL, ldA, st1, st2, okS, List.getElem?_cons_zero, List.getElem?_cons_succ, List.length_cons, List.length_nil, List.set_cons_zero, List.set_cons_succ, callP, callF, popN, ct, Value.category, cI, List.getD_cons_zero, List.getD_cons_succ, and_self, and_true, true_and, Nat.zero_le, Nat.reduceLeDiff, Nat.add_zero, Nat.zero_add, List.nil_append, List.cons_append, Option.toList_some, Option.toList_none, List.append_nil, hset_ss, true_or, or_true, eq_self, beq_self_eq_true, List.drop_succ_cons, List.drop_zero, swT, swL, hset_ap, not_true_eq_false, not_false_eq_true, true_implies, false_implies, implies_true, Int32.reduceLE, Int32.reduceLT, Int32.reduceAdd, Int32.reduceSub, Int32.reduceOfInt, Int32.reduceToNatClampNeg, i10, i01, Nat.add_left_cancel_iff, Nat.left_eq_add, Nat.add_eq_left, cdX11_wrong, F1, m4.o, (show upd c 30 v4 12 = nI s.1 from h12), e5, m4.a35, m4.a31, ix40, i_cl (show 40 * r + k < 2147483648 by omega), i_cl (show k < 2147483648 by omega), q4 k (by omega), nI_1]
                repeat refine ⟨vp_in_nI (by omega) (by omega), ?_⟩
                refine ihu2 (k + 1) _ v4 _ _ _ (by omega) (m4.s35 (upd (a4 35) (40 * r + k) (nI (evS s M.f (bt 0) r k)))) (fun i i1 i2 i3 => by rw [fset_n _ _ i2]; exact f4 i i1 i2 i3) (fun r' hr' k' hk' => ⟨?_, (e4 r' hr' k' hk').2⟩) q4 (fun k' hk' => ?_) (o4.set (by omega) (by omega))
                · show upd (a4 35) (40 * r + k) _ (40 * r' + k') = _
                  rw [pk_un (by omega)]; exact (e4 r' hr' k' hk').1
                · show upd (a4 35) (40 * r + k) _ (40 * r + k') = _
                  by_cases ek : k' = k
                  · subst ek; rw [pk_us]
                  · rw [pk_un (by omega)]; exact s4 k' (by omega)
            exact cp1 s.1 0 h3 v3 _ _ _ (by omega) m3 (fun i i1 i2 i3 => by rw [fset_n _ _ i1]; exact f2 i i1 i2 i3) e2 (fun k' hk' => by show g3 k' = _; rw [hg3 k' hk', val false v a2 f2 k' hk', dn0]) (fun k' hk' => absurd hk' (by omega)) (o2.tr o3)
        refine go_ok okF1 (C := cdX11_wrong) (by rfl) [35] 40 (by exact Nat.le_of_ble_eq_true rfl) ?_
        simp (maxSteps := 2000000) only [go, stp, inS, ↓reduceIte, Bool.false_eq_true, Nat.reduceLT, Nat.reduceEqDiff, Nat.reduceAdd, ldI, ldL, ldA, st1, st2, okS, List.getElem?_cons_zero, List.getElem?_cons_succ, List.length_cons, List.length_nil, List.set_cons_zero, List.set_cons_succ, callP, callF, popN, ct, Value.category, cI, List.getD_cons_zero, List.getD_cons_succ, and_self, and_true, true_and, Nat.zero_le, Nat.reduceLeDiff, Nat.add_zero, Nat.zero_add, List.nil_append, List.cons_append, Option.toList_some, Option.toList_none, List.append_nil, hset_ss, true_or, or_true, eq_self, beq_self_eq_true, List.drop_succ_cons, List.drop_zero, swT, swL, hset_ap, not_true_eq_false, not_false_eq_true, true_implies, false_implies, implies_true, Int32.reduceLE, Int32.reduceLT, Int32.reduceAdd, Int32.reduceSub, Int32.reduceOfInt, Int32.reduceToNatClampNeg, i10, i01, Nat.add_left_cancel_iff, Nat.left_eq_add, Nat.add_eq_left, cdX11_wrong, F1]
        exact fill M.nr 0 h1 (c 30) a _ _ _ (by omega) (by rw [upd_me]; exact m1) (fun _ _ _ _ => rfl) (fun r' hr' => absurd hr' (by omega)) o1
    · rw [if_neg (fun q => hw3 (le1.mp q.2))] at hq
      refine go_ok okF1 (C := cdX11_wrong) (by rfl) [] 40 (by exact Nat.le_of_ble_eq_true rfl) ?_
      simp (maxSteps := 2000000) only [go, stp, inS, ↓reduceIte, Bool.false_eq_true, Nat.reduceLT, Nat.reduceEqDiff, Nat.reduceAdd, ldI, ldL, ldA, st1, st2, okS, List.getElem?_cons_zero, List.getElem?_cons_succ, List.length_cons, List.length_nil, List.set_cons_zero, List.set_cons_succ, callP, callF, popN, ct, Value.category, cI, List.getD_cons_zero, List.getD_cons_succ, and_self, and_true, true_and, Nat.zero_le, Nat.reduceLeDiff, Nat.add_zero, Nat.zero_add, List.nil_append, List.cons_append, Option.toList_some, Option.toList_none, List.append_nil, hset_ss, true_or, or_true, eq_self, beq_self_eq_true, List.drop_succ_cons, List.drop_zero, swT, swL, hset_ap, not_true_eq_false, not_false_eq_true, true_implies, false_implies, implies_true, Int32.reduceLE, Int32.reduceLT, Int32.reduceAdd, Int32.reduceSub, Int32.reduceOfInt, Int32.reduceToNatClampNeg, i10, i01, Nat.add_left_cancel_iff, Nat.left_eq_add, Nat.add_eq_left, cdX11_wrong, F1, eq_true hx, in01, eq_false hw3]
      exact hq h m0 sOff.rf
  · rw [if_neg (fun q => hx q.1)] at hq
    refine go_ok okF1 (C := cdX11_wrong) (by rfl) [] 40 (by exact Nat.le_of_ble_eq_true rfl) ?_
    simp (maxSteps := 2000000) only [go, stp, inS, ↓reduceIte, Bool.false_eq_true, Nat.reduceLT, Nat.reduceEqDiff, Nat.reduceAdd, ldI, ldL, ldA, st1, st2, okS, List.getElem?_cons_zero, List.getElem?_cons_succ, List.length_cons, List.length_nil, List.set_cons_zero, List.set_cons_succ, callP, callF, popN, ct, Value.category, cI, List.getD_cons_zero, List.getD_cons_succ, and_self, and_true, true_and, Nat.zero_le, Nat.reduceLeDiff, Nat.add_zero, Nat.zero_add, List.nil_append, List.cons_append, Option.toList_some, Option.toList_none, List.append_nil, hset_ss, true_or, or_true, eq_self, beq_self_eq_true, List.drop_succ_cons, List.drop_zero, swT, swL, hset_ap, not_true_eq_false, not_false_eq_true, true_implies, false_implies, implies_true, Int32.reduceLE, Int32.reduceLT, Int32.reduceAdd, Int32.reduceSub, Int32.reduceOfInt, Int32.reduceToNatClampNeg, i10, i01, Nat.add_left_cancel_iff, Nat.left_eq_add, Nat.add_eq_left, cdX11_wrong, F1, eq_false hx]
    exact hq h m0 sOff.rf
end ME2
