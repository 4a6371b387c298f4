
/-! the model: a test in a row -/
def ld (c : Nat → Int32) (a : Nat → Nat → Int32) (G L R : Nat → Int32) (N : Nat) : Prop := c 21 = nI N ∧ N ≤ 100 ∧ WFG G N ∧ lyA a G L R N ∧ ∀ k, k < N → a 27 k = nI (sz G N k)
theorem updupd (c : Nat → Int32) (i : Nat) (v w : Int32) : upd (upd c i v) i w = upd c i w := by
  funext j
  by_cases e : j = i
  · subst e; rw [pk_us, pk_us]
  · rw [pk_un e, pk_un e, pk_un e]
theorem fsetset {α : Type} (g : Nat → α) (i : Nat) (x y : α) : fset (fset g i x) i y = fset g i y := by
  funext j
  by_cases e : j = i
  · subst e; rw [fset_s, fset_s]
  · rw [fset_n _ _ e, fset_n _ _ e, fset_n _ _ e]
theorem fset_me {α : Type} (g : Nat → α) (i : Nat) : fset g i (g i) = g := by
  funext j
  by_cases e : j = i
  · subst e; rw [fset_s]
  · rw [fset_n _ _ e]
section MY
variable {n : Nat} {h : aH} {Q : aQ} {M : MS} {c : Nat → Int32} {a : Nat → Nat → Int32} {l : Nat → Nat → Int64} {G L R : Nat → Int32} {N : Nat}
set_option maxRecDepth 100000 in
set_option maxHeartbeats 400000 in
theorem D_actIn {k r : Nat} {eng : Bool} {w : Nat → Nat} (m : MH h c a l) (hL : ld c a G L R N) (hk : k < N) (hr : r < 8) (hw : ∀ j, k < j → j < N → a 31 j = nI (w j)) (hw2 : ∀ j, w j ≤ 2)
    (hq : ∀ h' v, MH h' (upd c 30 v) a l → fiN c eng v (fun i => FR G N L R (a 8) r w k i) → sOff h h' 52 80 → Q (some (.int (nI (evA (bt (dnE c eng)) G N L R (a 8) r w k)))) n h') : Ok 188 [.ref 52, .int (nI k), .int (nI r), .int (eI eng)] n h Q := by
  obtain ⟨hM, hN, hW, hA, hz⟩ := hL
  have a22 := (hA k hk).1
  have fi2 : ∀ {v P P'}, fiN c eng v P → (∀ i, P' i ↔ P i) → fiN c eng v P' := fun f e j hj => by rw [f j hj, e j]
  unfold evA at hq
  rcases (hW.1 k hk).1 with hc | hc | hc
  · rw [if_pos (cmB_iff.mpr hc)] at hq
    have e1 : (G k = 60 ∨ G k = 61 ∨ G k = 62) = True := eq_true hc
    refine ok_of kMX11_actIn kCX11_actIn (Nat.le_of_ble_eq_true rfl) (fun z => ?_)
    change A z _ _ 0 0 _ 0 [some (.ref 52), some (.int (nI k)), some (.int (nI r)), some (.int (eI eng)), none, none] [] _
    refine go_ok okF1 (C := cdX11_actIn) (by rfl) [] 40 (by exact Nat.le_of_ble_eq_true rfl) ?_
    simp (maxSteps := 2000000) only [go, stp, inS, ↓reduceIte, Bool.false_eq_true, Nat.reduceLT, Nat.reduceEqDiff, Nat.reduceAdd, ldI, ldL, ldA, st1, st2, okS, List.getElem?_cons_zero, List.getElem?_cons_succ, List.length_cons, List.length_nil, List.set_cons_zero, List.set_cons_succ, callP, callF, popN, ct, Value.category, cI, List.getD_cons_zero, List.getD_cons_succ, and_self, and_true, true_and, Nat.zero_le, Nat.reduceLeDiff, Nat.add_zero, Nat.zero_add, List.nil_append, List.cons_append, Option.toList_some, Option.toList_none, List.append_nil, hset_ss, true_or, or_true, eq_self, beq_self_eq_true, List.drop_succ_cons, List.drop_zero, swT, swL, hset_ap, not_true_eq_false, not_false_eq_true, true_implies, false_implies, implies_true, Int32.reduceLE, Int32.reduceLT, Int32.reduceAdd, Int32.reduceSub, Int32.reduceOfInt, Int32.reduceToNatClampNeg, i10, i01, Nat.add_left_cancel_iff, Nat.left_eq_add, Nat.add_eq_left, cdX11_actIn, F1, m.o, m.a22, i_cl (show k < 2147483648 by omega), a22, e1]
    repeat refine ⟨vp_in_nI (by omega) (by omega), ?_⟩
    refine D_than m hA hN hk hc hr (fun h' v m' f o => ?_)
    refine go_ok okF1 (C := cdX11_actIn) (by rfl) [] 40 (by exact Nat.le_of_ble_eq_true rfl) ?_
    simp (maxSteps := 2000000) only [go, stp, inS, ↓reduceIte, Bool.false_eq_true, Nat.reduceLT, Nat.reduceEqDiff, Nat.reduceAdd, ldI, ldL, ldA, st1, st2, okS, List.getElem?_cons_zero, List.getElem?_cons_succ, List.length_cons, List.length_nil, List.set_cons_zero, List.set_cons_succ, callP, callF, popN, ct, Value.category, cI, List.getD_cons_zero, List.getD_cons_succ, and_self, and_true, true_and, Nat.zero_le, Nat.reduceLeDiff, Nat.add_zero, Nat.zero_add, List.nil_append, List.cons_append, Option.toList_some, Option.toList_none, List.append_nil, hset_ss, true_or, or_true, eq_self, beq_self_eq_true, List.drop_succ_cons, List.drop_zero, swT, swL, hset_ap, not_true_eq_false, not_false_eq_true, true_implies, false_implies, implies_true, Int32.reduceLE, Int32.reduceLT, Int32.reduceAdd, Int32.reduceSub, Int32.reduceOfInt, Int32.reduceToNatClampNeg, i10, i01, Nat.add_left_cancel_iff, Nat.left_eq_add, Nat.add_eq_left, cdX11_actIn, F1]
    exact hq h' v m' (fi2 f (fun i => FR_cm hc)) o
  · have nc : ¬ cmB (G k) = true := fun q => tw_ncm hc (cmB_iff.mp q)
    have b := wf_bi hW hk hc
    have p1 := (sz_wf hW _ (k + 1) (Nat.le_refl _) b.1).1
    rcases hc with e | e
    · rw [if_neg nc, if_neg (by rw [e]; decide), if_neg (by rw [e]; decide), if_pos e] at hq
      exact act_and m hN b.2 (a22.trans e) (hz _ b.1) (hw _ (by omega) b.1) (hw _ (by omega) b.2) (hw2 _) (hw2 _) (fun h' v m' f o => hq h' v m' (fi2 f (fun i => FR_and e)) o)
    · rw [if_neg nc, if_neg (by rw [e]; decide), if_neg (by rw [e]; decide), if_neg (by rw [e]; decide)] at hq
      exact act_or m hN b.2 (a22.trans e) (hz _ b.1) (hw _ (by omega) b.1) (hw _ (by omega) b.2) (hw2 _) (hw2 _) (fun h' v m' f o => hq h' v m' (fi2 f (fun i => FR_or e)) o)
  · have nc : ¬ cmB (G k) = true := fun q => on_ncm hc (cmB_iff.mp q)
    have b := wf_un hW hk (on_ncm hc)
    rcases hc with e | e
    · rw [if_neg nc, if_pos e] at hq
      exact act_not m hN b (a22.trans e) (hw _ (by omega) b) (hw2 _) (fun h' v m' f o => hq h' v m' (fi2 f (fun i => FR_no e)) o)
    · rw [if_neg nc, if_neg (by rw [e]; decide), if_pos e] at hq
      exact act_ask m hN b (a22.trans e) (hA _ b).1 (hw _ (by omega) b) (hw2 _) (fun h' v m' f o => hq h' v m' (fi2 f (fun i => FR_ask e)) o)
set_option maxRecDepth 100000 in
set_option maxHeartbeats 400000 in
theorem D_goes {r : Nat} {eng : Bool} (m : MH h c a l) (hL : ld c a G L R N) (hr : r < 8)
    (hq : ∀ h' v g, MH h' (upd c 30 v) (fset a 31 g) l → (∀ k, k < N → g k = nI (ev (bt (dnE c eng)) G N L R (a 8) r k)) → fiN c eng v (fun i => ∃ k, k < N ∧ FR G N L R (a 8) r (ev (bt (dnE c eng)) G N L R (a 8) r) k i) → sOff h h' 52 80 → Q none n h') : Ok 189 [.ref 52, .int (nI r), .int (eI eng)] n h Q := by
  have hL0 := hL
  obtain ⟨hM, hN, hW, hA, hz⟩ := hL
  refine ok_of kMX11_goes kCX11_goes (Nat.le_of_ble_eq_true rfl) (fun z => ?_)
  change A z _ _ 0 0 _ 0 [some (.ref 52), some (.int (nI r)), some (.int (eI eng)), none] [] _
  refine go_ok okF1 (C := cdX11_goes) (by rfl) [7] 40 (by exact Nat.le_of_ble_eq_true rfl) ?_
  simp (maxSteps := 2000000) only [go, stp, inS, ↓reduceIte, Bool.false_eq_true, Nat.reduceLT, Nat.reduceEqDiff, Nat.reduceAdd, ldI, ldL, ldA, st1, st2, okS, List.getElem?_cons_zero, List.getElem?_cons_succ, List.length_cons, List.length_nil, List.set_cons_zero, List.set_cons_succ, callP, callF, popN, ct, Value.category, cI, List.getD_cons_zero, List.getD_cons_succ, and_self, and_true, true_and, Nat.zero_le, Nat.reduceLeDiff, Nat.add_zero, Nat.zero_add, List.nil_append, List.cons_append, Option.toList_some, Option.toList_none, List.append_nil, hset_ss, true_or, or_true, eq_self, beq_self_eq_true, List.drop_succ_cons, List.drop_zero, swT, swL, hset_ap, not_true_eq_false, not_false_eq_true, true_implies, false_implies, implies_true, Int32.reduceLE, Int32.reduceLT, Int32.reduceAdd, Int32.reduceSub, Int32.reduceOfInt, Int32.reduceToNatClampNeg, i10, i01, Nat.add_left_cancel_iff, Nat.left_eq_add, Nat.add_eq_left, cdX11_goes, F1, m.o, hM]
  have loop : ∀ k, k ≤ N → ∀ (x : Int32) h' v g, x + 1 = nI k → MH h' (upd c 30 v) (fset a 31 g) l → (∀ j, k ≤ j → j < N → g j = nI (ev (bt (dnE c eng)) G N L R (a 8) r j)) → fiN c eng v (fun i => ∃ j, k ≤ j ∧ j < N ∧ FR G N L R (a 8) r (ev (bt (dnE c eng)) G N L R (a 8) r) j i) → sOff h h' 52 80 → A z 189 n 0 0 h' 7 [some (.ref 52), some (.int (nI r)), some (.int (eI eng)), some (.int x)] [] Q := by
    intro k
    induction k with
    | zero =>
      intro _ x h' v g hx m' hg hf hO
      obtain rfl := x_d0 hx
      refine go_ok okF1 (C := cdX11_goes) (by rfl) [] 40 (by exact Nat.le_of_ble_eq_true rfl) ?_
      simp (maxSteps := 2000000) only [go, stp, inS, ↓reduceIte, Bool.false_eq_true, Nat.reduceLT, Nat.reduceEqDiff, Nat.reduceAdd, ldI, ldL, ldA, st1, st2, okS, List.getElem?_cons_zero, List.getElem?_cons_succ, List.length_cons, List.length_nil, List.set_cons_zero, List.set_cons_succ, callP, callF, popN, ct, Value.category, cI, List.getD_cons_zero, List.getD_cons_succ, and_self, and_true, true_and, Nat.zero_le, Nat.reduceLeDiff, Nat.add_zero, Nat.zero_add, List.nil_append, List.cons_append, Option.toList_some, Option.toList_none, List.append_nil, hset_ss, true_or, or_true, eq_self, beq_self_eq_true, List.drop_succ_cons, List.drop_zero, swT, swL, hset_ap, not_true_eq_false, not_false_eq_true, true_implies, false_implies, implies_true, Int32.reduceLE, Int32.reduceLT, Int32.reduceAdd, Int32.reduceSub, Int32.reduceOfInt, Int32.reduceToNatClampNeg, i10, i01, Nat.add_left_cancel_iff, Nat.left_eq_add, Nat.add_eq_left, cdX11_goes, F1, (show ((-1 : Int32) < 0) from by decide)]
      exact hq h' v g m' (fun k hk => hg k (by omega) hk) (fun j hj => by rw [hf j hj]; exact ⟨fun q => q.elim Or.inl (fun ⟨w1, w2, k, _, w3⟩ => Or.inr ⟨w1, w2, k, w3⟩), fun q => q.elim Or.inl (fun ⟨w1, w2, k, w3⟩ => Or.inr ⟨w1, w2, k, by omega, w3⟩)⟩) hO
    | succ k ih =>
      intro hk x h' v g hx m' hg hf hO
      obtain rfl := x_dn hx
      have hk' : k < N := by omega
      have c0 : ¬ nI k < 0 := i_nn (by omega)
      refine go_ok okF1 (C := cdX11_goes) (by rfl) [] 40 (by exact Nat.le_of_ble_eq_true rfl) ?_
      simp (maxSteps := 2000000) only [go, stp, inS, ↓reduceIte, Bool.false_eq_true, Nat.reduceLT, Nat.reduceEqDiff, Nat.reduceAdd, ldI, ldL, ldA, st1, st2, okS, List.getElem?_cons_zero, List.getElem?_cons_succ, List.length_cons, List.length_nil, List.set_cons_zero, List.set_cons_succ, callP, callF, popN, ct, Value.category, cI, List.getD_cons_zero, List.getD_cons_succ, and_self, and_true, true_and, Nat.zero_le, Nat.reduceLeDiff, Nat.add_zero, Nat.zero_add, List.nil_append, List.cons_append, Option.toList_some, Option.toList_none, List.append_nil, hset_ss, true_or, or_true, eq_self, beq_self_eq_true, List.drop_succ_cons, List.drop_zero, swT, swL, hset_ap, not_true_eq_false, not_false_eq_true, true_implies, false_implies, implies_true, Int32.reduceLE, Int32.reduceLT, Int32.reduceAdd, Int32.reduceSub, Int32.reduceOfInt, Int32.reduceToNatClampNeg, i10, i01, Nat.add_left_cancel_iff, Nat.left_eq_add, Nat.add_eq_left, cdX11_goes, F1, c0, m'.o, m'.a31]
      refine D_actIn (c := upd c 30 v) (a := fset a 31 g) (w := ev (bt (dnE c eng)) G N L R (a 8) r) m' hL0 hk' hr (fun j h1 h2 => hg j (by omega) h2) (fun j => ev_le _ _) (fun h2 v2 m2 f2 o2 => ?_)
      rw [updupd] at m2
      have e : evA (bt (dnE (upd c 30 v) eng)) G N L R (fset a 31 g 8) r (ev (bt (dnE c eng)) G N L R (a 8) r) k = ev (bt (dnE c eng)) G N L R (a 8) r k := (ev_rec hW hk').symm
      rw [e]
      refine go_ok okF1 (C := cdX11_goes) (by rfl) [7] 40 (by exact Nat.le_of_ble_eq_true rfl) ?_
      simp (maxSteps := 2000000) only [go, stp, inS, ↓reduceIte, Bool.false_eq_true, Nat.reduceLT, Nat.reduceEqDiff, Nat.reduceAdd, ldI, ldL, ldA, st1, st2, okS, List.getElem?_cons_zero, List.getElem?_cons_succ, List.length_cons, List.length_nil, List.set_cons_zero, List.set_cons_succ, callP, callF, popN, ct, Value.category, cI, List.getD_cons_zero, List.getD_cons_succ, and_self, and_true, true_and, Nat.zero_le, Nat.reduceLeDiff, Nat.add_zero, Nat.zero_add, List.nil_append, List.cons_append, Option.toList_some, Option.toList_none, List.append_nil, hset_ss, true_or, or_true, eq_self, beq_self_eq_true, List.drop_succ_cons, List.drop_zero, swT, swL, hset_ap, not_true_eq_false, not_false_eq_true, true_implies, false_implies, implies_true, Int32.reduceLE, Int32.reduceLT, Int32.reduceAdd, Int32.reduceSub, Int32.reduceOfInt, Int32.reduceToNatClampNeg, i10, i01, Nat.add_left_cancel_iff, Nat.left_eq_add, Nat.add_eq_left, cdX11_goes, F1, m2.a31, i_cl (show k < 2147483648 by omega)]
      repeat refine ⟨vp_in_nI (by omega) (by omega), ?_⟩
      have m3 := m2.s31 (upd g k (nI (ev (bt (dnE c eng)) G N L R (a 8) r k)))
      rw [fsetset] at m3
      refine ih (by omega) _ _ v2 _ (x_m1 _) m3 (fun j h1 h2 => ?_) (fun j hj => ?_) ((hO.tr o2).set (by omega) (by omega))
      · by_cases ej : j = k
        · subst ej; rw [pk_us]
        · rw [pk_un ej]; exact hg j (by omega) h2
      · rw [f2 j hj]
        show (bt v j = true ∨ (eng = true ∧ bt (c 28) j = true ∧ _)) ↔ _
        rw [hf j hj]
        constructor
        · rintro ((w | ⟨w1, w2, i, w3, w4, w5⟩) | ⟨w1, w2, w3⟩)
          · exact Or.inl w
          · exact Or.inr ⟨w1, w2, i, by omega, w4, w5⟩
          · exact Or.inr ⟨w1, w2, k, Nat.le_refl _, hk', w3⟩
        · rintro (w | ⟨w1, w2, i, w3, w4, w5⟩)
          · exact Or.inl (Or.inl w)
          · by_cases ei : i = k
            · subst ei; exact Or.inr ⟨w1, w2, w5⟩
            · exact Or.inl (Or.inr ⟨w1, w2, i, by omega, w4, w5⟩)
  refine loop N (Nat.le_refl _) _ h (c 30) (a 31) (x_s1 _) (by rw [upd_me, fset_me]; exact m) (fun j h1 h2 => absurd h2 (by omega)) (fiN.no (fun j _ q => by obtain ⟨i, h1, h2, -⟩ := q; omega)) sOff.rf
end MY
