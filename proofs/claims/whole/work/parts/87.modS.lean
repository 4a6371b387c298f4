
/-! the model: reading acts -/
def fc1 (c c' : Nat → Int32) : Prop := ∀ i, i ≠ 11 → i ≠ 12 → i ≠ 19 → i ≠ 20 → c' i = c i
def fa1 (a a' : Nat → Nat → Int32) : Prop := ∀ i, i < 13 ∨ 19 ≤ i → a' i = a i
def rdA (a : Nat → Nat → Int32) (G L R : Nat → Int32) (ac : Nat) : Prop := ∀ k, k < ac → a 13 k = G k ∧ (isCm (G k) → a 14 k = kdK (L k) ∧ a 15 k = kdK (R k) ∧ a 16 k = nmK (L k) ∧ a 17 k = nmK (R k))
theorem fc1.tr {c c1 c2 : Nat → Int32} (x : fc1 c c1) (y : fc1 c1 c2) : fc1 c c2 := fun i h1 h2 h3 h4 => (y i h1 h2 h3 h4).trans (x i h1 h2 h3 h4)
theorem fa1.tr {a a1 a2 : Nat → Nat → Int32} (x : fa1 a a1) (y : fa1 a1 a2) : fa1 a a2 := fun i h1 => (y i h1).trans (x i h1)
theorem fa1.rf (a : Nat → Nat → Int32) : fa1 a a := fun _ _ => rfl
theorem fa1.st {a a1 : Nat → Nat → Int32} (x : fa1 a a1) {i : Nat} (g : Nat → Int32) (h1 : 13 ≤ i) (h2 : i < 19) : fa1 a (fset a1 i g) := fun j hj => by rw [fset_n _ _ (by omega)]; exact x j hj
theorem rdT.fr {a a1 : Nat → Nat → Int32} {t len : Nat} {B : Nat → Int32} (hT : rdT a t B len) (x : fa1 a a1) : rdT a1 t B len := by
  obtain ⟨h1, h2, h3, h4⟩ := hT
  exact ⟨h1, h2, by rw [x 10 (by omega)]; exact h3, fun i hi => by rw [x 9 (by omega)]; exact h4 i hi⟩
theorem ac_s {B : Nat → Int32} {p ac ot : Nat} {G L R : Nat → Int32} (hs : pS B p = (ac, ot, 0, 0, -1, G, L, R)) (h0 : 0 < ot) : pS B (p + 1) = (if B p = 38 ∨ B p = 124 then (ac + 1, ot + 1, 0, 0, -1, upd G ac (B p), L, R) else if B p = 33 ∨ B p = 63 then (ac + 1, ot, 0, 0, -1, upd G ac (B p), L, R) else if B p = 60 ∨ B p = 61 ∨ B p = 62 then (ac + 1, ot - 1, 2, 0, -1, upd G ac (B p), L, R) else (ac, ot, 0, 0, nI p, G, L, R)) := by
  rw [pS, hs]
  unfold pstep
  dsimp only
  rw [if_neg (fun q => q rfl), if_neg (by omega), if_neg (by omega)]
section MS2
variable {n : Nat} {h : aH} {Q : aQ} {M : MS} {c : Nat → Int32} {a : Nat → Nat → Int32} {l : Nat → Nat → Int64} {B : Nat → Int32} {len t : Nat}
noncomputable def otN (g : Int32) (ot : Nat) : Nat := if twB g = true then ot + 1 else if cmB g = true then ot - 1 else ot
theorem rdA_sg {a a' : Nat → Nat → Int32} {G L R : Nat → Int32} {ac : Nat} {g : Int32} (hr : rdA a G L R ac) (h13 : a' 13 = upd (a 13) ac g) (hn : ¬ isCm g) (h14 : ∀ i, 14 ≤ i → i < 18 → a' i = a i) : rdA a' (upd G ac g) L R (ac + 1) := by
  intro k hk
  rw [h13]
  by_cases e : k = ac
  · subst e; rw [pk_us, pk_us]; exact ⟨rfl, fun q => absurd q hn⟩
  · rw [pk_un e, pk_un e, h14 14 (by omega) (by omega), h14 15 (by omega) (by omega), h14 16 (by omega) (by omega), h14 17 (by omega) (by omega)]
    exact hr k (by omega)
set_option maxRecDepth 100000 in
set_option maxHeartbeats 400000 in
theorem D_act {p ac ot : Nat} {G L R : Nat → Int32} (m : MH h c a l) (hT : rdT a t B len) (hp : c 11 = nI p) (hac : c 12 = nI ac) (hpl : p ≤ len) (hs : pS B p = (ac, ot, 0, 0, -1, G, L, R)) (h0 : 0 < ot) (hA : rdA a G L R ac)
    (hqS : ∀ p' g L' R', p < p' → p' ≤ len → pS B p' = (ac + 1, otN g ot, 0, 0, -1, upd G ac g, L', R') → ∀ h' c' a', MH h' c' a' l → rdA a' (upd G ac g) L' R' (ac + 1) → c' 12 = nI (ac + 1) → c' 11 = nI p' → fc1 c c' → fa1 a a' → sOff h h' 52 80 → Q (some (.int 1)) n h')
    (hqF : ∀ p', flF B len p' → ∀ h' c' a', MH h' c' a' l → c' 11 = nI p' → fc1 c c' → fa1 a a' → sOff h h' 52 80 → Q (some (.int 0)) n h') : Ok 174 [.ref 52, .int (nI t)] n h Q := by
  have hl := hT.2.1
  have hI := pS_I B p
  rw [hs] at hI
  have hap : ac ≤ p := hI.1
  refine ok_of kMX11_readsAct kCX11_readsAct (Nat.le_of_ble_eq_true rfl) (fun z => ?_)
  change A z _ _ 0 0 _ 0 [some (.ref 52), some (.int (nI t)), none] [] _
  refine go_ok okF1 (C := cdX11_readsAct) (by rfl) [] 60 (by exact Nat.le_of_ble_eq_true rfl) ?_
  simp (maxSteps := 2000000) only [go, stp, inS, ↓reduceIte, Bool.false_eq_true, Nat.reduceLT, Nat.reduceEqDiff, Nat.reduceAdd, ldI, ldL, ldA, st1, st2, okS, List.getElem?_cons_zero, List.getElem?_cons_succ, List.length_cons, List.length_nil, List.set_cons_zero, List.set_cons_succ, callP, callF, popN, ct, Value.category, cI, List.getD_cons_zero, List.getD_cons_succ, and_self, and_true, true_and, Nat.zero_le, Nat.reduceLeDiff, Nat.add_zero, Nat.zero_add, List.nil_append, List.cons_append, Option.toList_some, Option.toList_none, List.append_nil, hset_ss, true_or, or_true, eq_self, beq_self_eq_true, List.drop_succ_cons, List.drop_zero, swT, swL, hset_ap, not_true_eq_false, not_false_eq_true, true_implies, false_implies, implies_true, Int32.reduceLE, Int32.reduceLT, Int32.reduceAdd, Int32.reduceSub, Int32.reduceOfInt, Int32.reduceToNatClampNeg, i10, i01, Nat.add_left_cancel_iff, Nat.left_eq_add, Nat.add_eq_left, cdX11_readsAct, F1, m.o]
  refine D_here m hT hp hpl ?_
  by_cases e : p < len
  · have eh : hr B len p = B p := by unfold hr; rw [if_pos e]
    rw [eh]
    have st := ac_s hs h0
    have pd : p + 1 ≤ len := e
    by_cases b1 : B p = 38 ∨ B p = 124
    · rw [if_pos b1] at st
      have nc : ¬ (B p = 60 ∨ B p = 61 ∨ B p = 62) := tw_ncm b1
      refine go_ok okF1 (C := cdX11_readsAct) (by rfl) [] 60 (by exact Nat.le_of_ble_eq_true rfl) ?_
      simp (maxSteps := 2000000) only [go, stp, inS, ↓reduceIte, Bool.false_eq_true, Nat.reduceLT, Nat.reduceEqDiff, Nat.reduceAdd, ldI, ldL, ldA, st1, st2, okS, List.getElem?_cons_zero, List.getElem?_cons_succ, List.length_cons, List.length_nil, List.set_cons_zero, List.set_cons_succ, callP, callF, popN, ct, Value.category, cI, List.getD_cons_zero, List.getD_cons_succ, and_self, and_true, true_and, Nat.zero_le, Nat.reduceLeDiff, Nat.add_zero, Nat.zero_add, List.nil_append, List.cons_append, Option.toList_some, Option.toList_none, List.append_nil, hset_ss, true_or, or_true, eq_self, beq_self_eq_true, List.drop_succ_cons, List.drop_zero, swT, swL, hset_ap, not_true_eq_false, not_false_eq_true, true_implies, false_implies, implies_true, Int32.reduceLE, Int32.reduceLT, Int32.reduceAdd, Int32.reduceSub, Int32.reduceOfInt, Int32.reduceToNatClampNeg, i10, i01, Nat.add_left_cancel_iff, Nat.left_eq_add, Nat.add_eq_left, cdX11_readsAct, F1, eq_true b1, eq_false nc, m.o, m.a13, hp, hac, nI_1, i_cl (show ac < 2147483648 by omega)]
      repeat refine ⟨vp_in_nI (by omega) (by omega), ?_⟩
      refine hqS (p + 1) (B p) L R (by omega) pd (by rw [st]; unfold otN; rw [if_pos (twB_iff.mpr b1)]) _ (upd (upd c 11 (nI (p + 1))) 12 (nI (ac + 1))) _ (((m.sc (upd (upd c 12 (nI ac)) 11 (nI (p + 1)))).s13 (upd (a 13) ac (B p))).sc (upd (upd c 11 (nI (p + 1))) 12 (nI (ac + 1)))) (rdA_sg hA rfl nc (fun i i1 i2 => by rw [fset_n _ _ (by omega)])) rfl rfl (fun i i1 i2 i3 i4 => by rw [pk_un i2, pk_un i1]) ((fa1.rf a).st _ (by omega) (by omega)) (((sOff.rf.set (by omega) (by omega)).set (by omega) (by omega)).set (by omega) (by omega))
    · rw [if_neg b1] at st
      by_cases b2 : B p = 33 ∨ B p = 63
      · rw [if_pos b2] at st
        have nc : ¬ (B p = 60 ∨ B p = 61 ∨ B p = 62) := on_ncm b2
        refine go_ok okF1 (C := cdX11_readsAct) (by rfl) [] 60 (by exact Nat.le_of_ble_eq_true rfl) ?_
        simp (maxSteps := 2000000) only [go, stp, inS, ↓reduceIte, Bool.false_eq_true, Nat.reduceLT, Nat.reduceEqDiff, Nat.reduceAdd, ldI, ldL, ldA, st1, st2, okS, List.getElem?_cons_zero, List.getElem?_cons_succ, List.length_cons, List.length_nil, List.set_cons_zero, List.set_cons_succ, callP, callF, popN, ct, Value.category, cI, List.getD_cons_zero, List.getD_cons_succ, and_self, and_true, true_and, Nat.zero_le, Nat.reduceLeDiff, Nat.add_zero, Nat.zero_add, List.nil_append, List.cons_append, Option.toList_some, Option.toList_none, List.append_nil, hset_ss, true_or, or_true, eq_self, beq_self_eq_true, List.drop_succ_cons, List.drop_zero, swT, swL, hset_ap, not_true_eq_false, not_false_eq_true, true_implies, false_implies, implies_true, Int32.reduceLE, Int32.reduceLT, Int32.reduceAdd, Int32.reduceSub, Int32.reduceOfInt, Int32.reduceToNatClampNeg, i10, i01, Nat.add_left_cancel_iff, Nat.left_eq_add, Nat.add_eq_left, cdX11_readsAct, F1, eq_false b1, eq_true b2, eq_false nc, m.o, m.a13, hp, hac, nI_1, i_cl (show ac < 2147483648 by omega)]
        repeat refine ⟨vp_in_nI (by omega) (by omega), ?_⟩
        refine hqS (p + 1) (B p) L R (by omega) pd (by rw [st]; unfold otN; rw [if_neg (fun q => b1 (twB_iff.mp q)), if_neg (fun q => nc (cmB_iff.mp q))]) _ (upd (upd c 11 (nI (p + 1))) 12 (nI (ac + 1))) _ (((m.sc (upd (upd c 12 (nI ac)) 11 (nI (p + 1)))).s13 (upd (a 13) ac (B p))).sc (upd (upd c 11 (nI (p + 1))) 12 (nI (ac + 1)))) (rdA_sg hA rfl nc (fun i i1 i2 => by rw [fset_n _ _ (by omega)])) rfl rfl (fun i i1 i2 i3 i4 => by rw [pk_un i2, pk_un i1]) ((fa1.rf a).st _ (by omega) (by omega)) (((sOff.rf.set (by omega) (by omega)).set (by omega) (by omega)).set (by omega) (by omega))
      · rw [if_neg b2] at st
        by_cases b3 : B p = 60 ∨ B p = 61 ∨ B p = 62
        · rw [if_pos b3] at st
          refine go_ok okF1 (C := cdX11_readsAct) (by rfl) [] 60 (by exact Nat.le_of_ble_eq_true rfl) ?_
          simp (maxSteps := 2000000) only [go, stp, inS, ↓reduceIte, Bool.false_eq_true, Nat.reduceLT, Nat.reduceEqDiff, Nat.reduceAdd, ldI, ldL, ldA, st1, st2, okS, List.getElem?_cons_zero, List.getElem?_cons_succ, List.length_cons, List.length_nil, List.set_cons_zero, List.set_cons_succ, callP, callF, popN, ct, Value.category, cI, List.getD_cons_zero, List.getD_cons_succ, and_self, and_true, true_and, Nat.zero_le, Nat.reduceLeDiff, Nat.add_zero, Nat.zero_add, List.nil_append, List.cons_append, Option.toList_some, Option.toList_none, List.append_nil, hset_ss, true_or, or_true, eq_self, beq_self_eq_true, List.drop_succ_cons, List.drop_zero, swT, swL, hset_ap, not_true_eq_false, not_false_eq_true, true_implies, false_implies, implies_true, Int32.reduceLE, Int32.reduceLT, Int32.reduceAdd, Int32.reduceSub, Int32.reduceOfInt, Int32.reduceToNatClampNeg, i10, i01, Nat.add_left_cancel_iff, Nat.left_eq_add, Nat.add_eq_left, cdX11_readsAct, F1, eq_false b1, eq_false b2, eq_true b3, m.o, m.a13, hp, hac, nI_1, i_cl (show ac < 2147483648 by omega)]
          repeat refine ⟨vp_in_nI (by omega) (by omega), ?_⟩
          have m1 := (m.sc (upd (upd c 12 (nI ac)) 11 (nI (p + 1)))).s13 (upd (a 13) ac (B p))
          have fa1' : fa1 a (fset a 13 (upd (a 13) ac (B p))) := (fa1.rf a).st _ (by omega) (by omega)
          have hO1 : sOff h (hset (hset h 52 (oM (upd (upd c 12 (nI ac)) 11 (nI (p + 1))))) 61 (.inr (40, .inl (upd (a 13) ac (B p))))) 52 80 := (sOff.rf.set (by omega) (by omega)).set (by omega) (by omega)
          refine D_term (c := upd (upd c 12 (nI ac)) 11 (nI (p + 1))) m1 (hT.fr fa1') rfl pd st (by omega) (fun p1 τ q1 q2 st1 h1 c1 n1 k1 k2 k3 k4 o1 => ?_) (fun p1 fl h1 c1 n1 k1 k2 o1 => ?_)
          · have c12 : c1 12 = nI ac := (k4 12 (by omega) (by omega) (by omega)).trans rfl
            refine go_ok okF1 (C := cdX11_readsAct) (by rfl) [] 60 (by exact Nat.le_of_ble_eq_true rfl) ?_
            simp (maxSteps := 2000000) only [go, stp, inS, ↓reduceIte, Bool.false_eq_true, Nat.reduceLT, Nat.reduceEqDiff, Nat.reduceAdd, ldI, ldL, ldA, st1, st2, okS, List.getElem?_cons_zero, List.getElem?_cons_succ, List.length_cons, List.length_nil, List.set_cons_zero, List.set_cons_succ, callP, callF, popN, ct, Value.category, cI, List.getD_cons_zero, List.getD_cons_succ, and_self, and_true, true_and, Nat.zero_le, Nat.reduceLeDiff, Nat.add_zero, Nat.zero_add, List.nil_append, List.cons_append, Option.toList_some, Option.toList_none, List.append_nil, hset_ss, true_or, or_true, eq_self, beq_self_eq_true, List.drop_succ_cons, List.drop_zero, swT, swL, hset_ap, not_true_eq_false, not_false_eq_true, true_implies, false_implies, implies_true, Int32.reduceLE, Int32.reduceLT, Int32.reduceAdd, Int32.reduceSub, Int32.reduceOfInt, Int32.reduceToNatClampNeg, i10, i01, Nat.add_left_cancel_iff, Nat.left_eq_add, Nat.add_eq_left, cdX11_readsAct, F1, n1.o, n1.a14, n1.a16, c12, i_cl (show ac < 2147483648 by omega), k1, k2]
            repeat refine ⟨vp_in_nI (by omega) (by omega), ?_⟩
            have n2 := (n1.s14 (upd (a 14) ac (kdK τ))).s16 (upd (a 16) ac (nmK τ))
            have fa2 : fa1 a (fset (fset (fset a 13 (upd (a 13) ac (B p))) 14 (upd (a 14) ac (kdK τ))) 16 (upd (a 16) ac (nmK τ))) := (fa1'.st _ (by omega) (by omega)).st _ (by omega) (by omega)
            have st1' : pS B p1 = (ac + 1, ot - 1, 1, 0, -1, upd G ac (B p), upd L ac τ, R) := by rw [st1]; rfl
            have hO2 : sOff h (hset (hset h1 62 (.inr (40, .inl (upd (a 14) ac (kdK τ))))) 64 (.inr (40, .inl (upd (a 16) ac (nmK τ))))) 52 80 := ((hO1.tr o1).set (by omega) (by omega)).set (by omega) (by omega)
            refine D_term n2 (hT.fr fa2) k3 q2 st1' (by omega) (fun p2 τ2 q3 q4 st2 h2 c2 n3 j1 j2 j3 j4 o2 => ?_) (fun p2 fl h2 c2 n3 j1 j2 o2 => ?_)
            · have c12' : c2 12 = nI ac := (j4 12 (by omega) (by omega) (by omega)).trans c12
              refine go_ok okF1 (C := cdX11_readsAct) (by rfl) [] 60 (by exact Nat.le_of_ble_eq_true rfl) ?_
              simp (maxSteps := 2000000) only [go, stp, inS, ↓reduceIte, Bool.false_eq_true, Nat.reduceLT, Nat.reduceEqDiff, Nat.reduceAdd, ldI, ldL, ldA, st1, st2, okS, List.getElem?_cons_zero, List.getElem?_cons_succ, List.length_cons, List.length_nil, List.set_cons_zero, List.set_cons_succ, callP, callF, popN, ct, Value.category, cI, List.getD_cons_zero, List.getD_cons_succ, and_self, and_true, true_and, Nat.zero_le, Nat.reduceLeDiff, Nat.add_zero, Nat.zero_add, List.nil_append, List.cons_append, Option.toList_some, Option.toList_none, List.append_nil, hset_ss, true_or, or_true, eq_self, beq_self_eq_true, List.drop_succ_cons, List.drop_zero, swT, swL, hset_ap, not_true_eq_false, not_false_eq_true, true_implies, false_implies, implies_true, Int32.reduceLE, Int32.reduceLT, Int32.reduceAdd, Int32.reduceSub, Int32.reduceOfInt, Int32.reduceToNatClampNeg, i10, i01, Nat.add_left_cancel_iff, Nat.left_eq_add, Nat.add_eq_left, cdX11_readsAct, F1, n3.o, n3.a15, n3.a17, c12', i_cl (show ac < 2147483648 by omega), j1, j2, nI_1]
              repeat refine ⟨vp_in_nI (by omega) (by omega), ?_⟩
              have st2' : pS B p2 = (ac + 1, ot - 1, 0, 0, -1, upd G ac (B p), upd L ac τ, upd R ac τ2) := by rw [st2]; rfl
              refine hqS p2 (B p) (upd L ac τ) (upd R ac τ2) (by omega) q4 (by rw [st2']; unfold otN; rw [if_neg (fun q => b1 (twB_iff.mp q)), if_pos (cmB_iff.mpr b3)]) _ (upd (upd (upd c2 19 (kdK τ2)) 20 (nmK τ2)) 12 (nI (ac + 1))) _ (((n3.s15 (upd (a 15) ac (kdK τ2))).s17 (upd (a 17) ac (nmK τ2))).sc (upd (upd (upd c2 19 (kdK τ2)) 20 (nmK τ2)) 12 (nI (ac + 1)))) ?_ rfl j3 (fun i i1 i2 i3 i4 => ?_) ((fa2.st _ (by omega) (by omega)).st _ (by omega) (by omega)) ((((hO2.tr o2).set (by omega) (by omega)).set (by omega) (by omega)).set (by omega) (by omega))
              · intro k hk
                show upd (a 13) ac (B p) k = upd G ac (B p) k ∧ (isCm (upd G ac (B p) k) → upd (a 14) ac (kdK τ) k = kdK (upd L ac τ k) ∧ upd (a 15) ac (kdK τ2) k = kdK (upd R ac τ2 k) ∧ upd (a 16) ac (nmK τ) k = nmK (upd L ac τ k) ∧ upd (a 17) ac (nmK τ2) k = nmK (upd R ac τ2 k))
                by_cases e : k = ac
                · subst e; simp only [pk_us]; exact ⟨trivial, fun _ => ⟨trivial, trivial, trivial, trivial⟩⟩
                · simp only [pk_un e]; exact hA k (by omega)
              · rw [pk_un i2, pk_un i4, pk_un i3, j4 i i1 i3 i4, k4 i i1 i3 i4, pk_un i1, pk_un i2]
            · refine go_ok okF1 (C := cdX11_readsAct) (by rfl) [] 60 (by exact Nat.le_of_ble_eq_true rfl) ?_
              simp (maxSteps := 2000000) only [go, stp, inS, ↓reduceIte, Bool.false_eq_true, Nat.reduceLT, Nat.reduceEqDiff, Nat.reduceAdd, ldI, ldL, ldA, st1, st2, okS, List.getElem?_cons_zero, List.getElem?_cons_succ, List.length_cons, List.length_nil, List.set_cons_zero, List.set_cons_succ, callP, callF, popN, ct, Value.category, cI, List.getD_cons_zero, List.getD_cons_succ, and_self, and_true, true_and, Nat.zero_le, Nat.reduceLeDiff, Nat.add_zero, Nat.zero_add, List.nil_append, List.cons_append, Option.toList_some, Option.toList_none, List.append_nil, hset_ss, true_or, or_true, eq_self, beq_self_eq_true, List.drop_succ_cons, List.drop_zero, swT, swL, hset_ap, not_true_eq_false, not_false_eq_true, true_implies, false_implies, implies_true, Int32.reduceLE, Int32.reduceLT, Int32.reduceAdd, Int32.reduceSub, Int32.reduceOfInt, Int32.reduceToNatClampNeg, i10, i01, Nat.add_left_cancel_iff, Nat.left_eq_add, Nat.add_eq_left, cdX11_readsAct, F1]
              exact hqF p2 fl h2 c2 _ n3 j1 (fun i i1 i2 i3 i4 => by rw [j2 i i1 i3 i4, k4 i i1 i3 i4, pk_un i1, pk_un i2]) fa2 (hO2.tr o2)
          · refine go_ok okF1 (C := cdX11_readsAct) (by rfl) [] 60 (by exact Nat.le_of_ble_eq_true rfl) ?_
            simp (maxSteps := 2000000) only [go, stp, inS, ↓reduceIte, Bool.false_eq_true, Nat.reduceLT, Nat.reduceEqDiff, Nat.reduceAdd, ldI, ldL, ldA, st1, st2, okS, List.getElem?_cons_zero, List.getElem?_cons_succ, List.length_cons, List.length_nil, List.set_cons_zero, List.set_cons_succ, callP, callF, popN, ct, Value.category, cI, List.getD_cons_zero, List.getD_cons_succ, and_self, and_true, true_and, Nat.zero_le, Nat.reduceLeDiff, Nat.add_zero, Nat.zero_add, List.nil_append, List.cons_append, Option.toList_some, Option.toList_none, List.append_nil, hset_ss, true_or, or_true, eq_self, beq_self_eq_true, List.drop_succ_cons, List.drop_zero, swT, swL, hset_ap, not_true_eq_false, not_false_eq_true, true_implies, false_implies, implies_true, Int32.reduceLE, Int32.reduceLT, Int32.reduceAdd, Int32.reduceSub, Int32.reduceOfInt, Int32.reduceToNatClampNeg, i10, i01, Nat.add_left_cancel_iff, Nat.left_eq_add, Nat.add_eq_left, cdX11_readsAct, F1]
            exact hqF p1 fl h1 c1 _ n1 k1 (fun i i1 i2 i3 i4 => by rw [k2 i i1 i3 i4, pk_un i1, pk_un i2]) fa1' (hO1.tr o1)
        · rw [if_neg b3] at st
          refine go_ok okF1 (C := cdX11_readsAct) (by rfl) [] 60 (by exact Nat.le_of_ble_eq_true rfl) ?_
          simp (maxSteps := 2000000) only [go, stp, inS, ↓reduceIte, Bool.false_eq_true, Nat.reduceLT, Nat.reduceEqDiff, Nat.reduceAdd, ldI, ldL, ldA, st1, st2, okS, List.getElem?_cons_zero, List.getElem?_cons_succ, List.length_cons, List.length_nil, List.set_cons_zero, List.set_cons_succ, callP, callF, popN, ct, Value.category, cI, List.getD_cons_zero, List.getD_cons_succ, and_self, and_true, true_and, Nat.zero_le, Nat.reduceLeDiff, Nat.add_zero, Nat.zero_add, List.nil_append, List.cons_append, Option.toList_some, Option.toList_none, List.append_nil, hset_ss, true_or, or_true, eq_self, beq_self_eq_true, List.drop_succ_cons, List.drop_zero, swT, swL, hset_ap, not_true_eq_false, not_false_eq_true, true_implies, false_implies, implies_true, Int32.reduceLE, Int32.reduceLT, Int32.reduceAdd, Int32.reduceSub, Int32.reduceOfInt, Int32.reduceToNatClampNeg, i10, i01, Nat.add_left_cancel_iff, Nat.left_eq_add, Nat.add_eq_left, cdX11_readsAct, F1, eq_false b1, eq_false b2, eq_false b3]
          exact hqF p (fl_skip hl e (by rw [st])) h c a m hp (fun _ _ _ _ _ => rfl) (fa1.rf a) sOff.rf
  · obtain rfl : p = len := by omega
    rw [hr_end]
    refine go_ok okF1 (C := cdX11_readsAct) (by rfl) [] 60 (by exact Nat.le_of_ble_eq_true rfl) ?_
    simp (maxSteps := 2000000) only [go, stp, inS, ↓reduceIte, Bool.false_eq_true, Nat.reduceLT, Nat.reduceEqDiff, Nat.reduceAdd, ldI, ldL, ldA, st1, st2, okS, List.getElem?_cons_zero, List.getElem?_cons_succ, List.length_cons, List.length_nil, List.set_cons_zero, List.set_cons_succ, callP, callF, popN, ct, Value.category, cI, List.getD_cons_zero, List.getD_cons_succ, and_self, and_true, true_and, Nat.zero_le, Nat.reduceLeDiff, Nat.add_zero, Nat.zero_add, List.nil_append, List.cons_append, Option.toList_some, Option.toList_none, List.append_nil, hset_ss, true_or, or_true, eq_self, beq_self_eq_true, List.drop_succ_cons, List.drop_zero, swT, swL, hset_ap, not_true_eq_false, not_false_eq_true, true_implies, false_implies, implies_true, Int32.reduceLE, Int32.reduceLT, Int32.reduceAdd, Int32.reduceSub, Int32.reduceOfInt, Int32.reduceToNatClampNeg, i10, i01, Nat.add_left_cancel_iff, Nat.left_eq_add, Nat.add_eq_left, cdX11_readsAct, F1, eq_false (show ¬ ((-1 : Int32) = 38 ∨ (-1 : Int32) = 124) by decide), eq_false (show ¬ ((-1 : Int32) = 33 ∨ (-1 : Int32) = 63) by decide), eq_false (show ¬ ((-1 : Int32) = 60 ∨ (-1 : Int32) = 61 ∨ (-1 : Int32) = 62) by decide)]
    exact hqF p (fl_end hl (by rw [hs]) (by rw [hs]; exact fun q => absurd (show ot = 0 from q.1) (by omega))) h c a m hp (fun _ _ _ _ _ => rfl) (fa1.rf a) sOff.rf
end MS2
