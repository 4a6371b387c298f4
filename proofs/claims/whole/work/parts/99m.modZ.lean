
/-! the model: grow, next -/
theorem pS_ext {B B' : Nat → Int32} : ∀ k, (∀ i, i < k → B' i = B i) → pS B' k = pS B k
  | 0, _ => rfl
  | k + 1, h => by rw [pS, pS, pS_ext k (fun i hi => h i (by omega)), h k (by omega)]
theorem pfold_pS (B : Nat → Int32) : ∀ (o : List Int32) (p : Nat), (∀ i, i < o.length → B (p + i) = o.getD i 0) → pfold (pS B p) p o = pS B (p + o.length)
  | [], p, _ => rfl
  | b :: o, p, h => by
    have h0 := h 0 (by simp)
    rw [Nat.add_zero] at h0
    show pfold (pstep (pS B p) p b) (p + 1) o = _
    have : pstep (pS B p) p b = pS B (p + 1) := by rw [pS, h0]; rfl
    rw [this, pfold_pS B o (p + 1) (fun i hi => by
      have := h (i + 1) (by simp; omega)
      rw [show p + 1 + i = p + (i + 1) by omega, this]; rfl)]
    rw [List.length_cons, show p + 1 + o.length = p + (o.length + 1) by omega]
theorem pS_wr (B : Nat → Int32) (o : List Int32) : pS (wr B o) o.length = pfold (pz (fun _ => 0) (fun _ => 0) (fun _ => 0)) 0 o := by
  have := pfold_pS (wr B o) o 0 (fun i hi => by rw [Nat.zero_add]; unfold wr; rw [if_pos hi])
  rw [Nat.zero_add] at this
  exact this.symm
section MZ2
variable {n : Nat} {h : aH} {Q : aQ} {M : MS} {c : Nat → Int32} {a : Nat → Nat → Int32} {l : Nat → Nat → Int64}
theorem gw_mR {c' : Nat → Int32} {a' : Nat → Nat → Int32} {sd op : Int32} {Rm : Nat → Int32} {o : List Int32} {s : pT} (ok : MOk M) (r : mR M c a l) (g : gw c a c' a' sd op Rm o) : mR (txM M 1 (wr (M.B 1) o) s o.length) c' a' l := by
  obtain ⟨g1, g2, g3, g4, g5, g6, g7, g8, g9⟩ := g
  refine ⟨⟨by rw [g6 4 (by omega) (by omega)]; exact r.1.1, by rw [g6 5 (by omega) (by omega)]; exact r.1.2.1, by rw [g6 28 (by omega) (by omega)]; exact r.1.2.2.1, by rw [g6 29 (by omega) (by omega)]; exact r.1.2.2.2⟩, by rw [g7 6 (by omega) (by omega) (by omega)]; exact r.2.1, fun t ht => ?_, fun t i ht hi => ?_, by rw [g7 40 (by omega) (by omega) (by omega)]; exact r.2.2.2.2.1, by rw [g7 0 (by omega) (by omega) (by omega)]; exact r.2.2.2.2.2.1, by rw [g7 1 (by omega) (by omega) (by omega)]; exact r.2.2.2.2.2.2.1, r.2.2.2.2.2.2.2⟩
  · show a' 10 t = nI (fset M.len 1 o.length t)
    rcases (by omega : t = 0 ∨ t = 1) with rfl | rfl
    · rw [g9, fset_n _ _ (by omega)]; exact r.ln (by omega)
    · rw [g4, fset_s]
  · have hi : i < fset M.len 1 o.length t := hi
    show a' 9 (40 * t + i) = fset M.B 1 (wr (M.B 1) o) t i
    rcases (by omega : t = 0 ∨ t = 1) with rfl | rfl
    · rw [fset_n _ _ (by omega)] at hi ⊢
      have := ok.ln 0 (by omega)
      rw [g8 _ (by omega)]; exact r.tx (by omega) hi
    · rw [fset_s] at hi ⊢
      rw [show 40 * 1 + i = 40 + i by omega, g5 i hi]; unfold wr; rw [if_pos hi]
set_option maxRecDepth 100000 in
set_option maxHeartbeats 400000 in
theorem D_grow {seed r0 : Int32} (m : MI h M) (ok : MOk M) (hq : ∀ h', MI h' (stGrow M seed r0).2 → sOff h h' 52 80 → Q (some (.int (stGrow M seed r0).1)) n h') : Ok 223 [.ref 52, .int seed, .int r0] n h Q := by
  unfold stGrow at hq
  have m0 := m
  obtain ⟨c, a, l, m, r⟩ := m
  refine ok_of kMX11_grow kCX11_grow (Nat.le_of_ble_eq_true rfl) (fun z => ?_)
  change A z _ _ 0 0 _ 0 [some (.ref 52), some (.int seed), some (.int r0)] [] _
  by_cases hr : 1 ≤ r0 ∧ r0 ≤ 9
  · rw [if_pos hr] at hq
    obtain ⟨j, h1, h9, rfl⟩ := i_rng (a := 1) (b := 9) (by omega) hr.1 hr.2 (by omega)
    rw [i_cl (show j < 2147483648 by omega)] at hq
    refine go_ok okF1 (C := cdX11_grow) (by rfl) [] 40 (by exact Nat.le_of_ble_eq_true rfl) ?_
    simp (maxSteps := 2000000) only [go, stp, inS, ↓reduceIte, Bool.false_eq_true, Nat.reduceLT, Nat.reduceEqDiff, Nat.reduceAdd, ldI, ldL, ldA, st1, st2, okS, List.getElem?_cons_zero, List.getElem?_cons_succ, List.length_cons, List.length_nil, List.set_cons_zero, List.set_cons_succ, callP, callF, popN, ct, Value.category, cI, List.getD_cons_zero, List.getD_cons_succ, and_self, and_true, true_and, Nat.zero_le, Nat.reduceLeDiff, Nat.add_zero, Nat.zero_add, List.nil_append, List.cons_append, Option.toList_some, Option.toList_none, List.append_nil, hset_ss, true_or, or_true, eq_self, beq_self_eq_true, List.drop_succ_cons, List.drop_zero, swT, swL, hset_ap, not_true_eq_false, not_false_eq_true, true_implies, false_implies, implies_true, Int32.reduceLE, Int32.reduceLT, Int32.reduceAdd, Int32.reduceSub, Int32.reduceOfInt, Int32.reduceToNatClampNeg, i10, i01, Nat.add_left_cancel_iff, Nat.left_eq_add, Nat.add_eq_left, cdX11_grow, F1, eq_true hr, m.o]
    refine D_grows m h1 h9 (fun h2 c2 a2 op Rm m2 g2 o2 => ?_)
    refine go_ok okF1 (C := cdX11_grow) (by rfl) [] 40 (by exact Nat.le_of_ble_eq_true rfl) ?_
    simp (maxSteps := 2000000) only [go, stp, inS, ↓reduceIte, Bool.false_eq_true, Nat.reduceLT, Nat.reduceEqDiff, Nat.reduceAdd, ldI, ldL, ldA, st1, st2, okS, List.getElem?_cons_zero, List.getElem?_cons_succ, List.length_cons, List.length_nil, List.set_cons_zero, List.set_cons_succ, callP, callF, popN, ct, Value.category, cI, List.getD_cons_zero, List.getD_cons_succ, and_self, and_true, true_and, Nat.zero_le, Nat.reduceLeDiff, Nat.add_zero, Nat.zero_add, List.nil_append, List.cons_append, Option.toList_some, Option.toList_none, List.append_nil, hset_ss, true_or, or_true, eq_self, beq_self_eq_true, List.drop_succ_cons, List.drop_zero, swT, swL, hset_ap, not_true_eq_false, not_false_eq_true, true_implies, false_implies, implies_true, Int32.reduceLE, Int32.reduceLT, Int32.reduceAdd, Int32.reduceSub, Int32.reduceOfInt, Int32.reduceToNatClampNeg, i10, i01, Nat.add_left_cancel_iff, Nat.left_eq_add, Nat.add_eq_left, cdX11_grow, F1, m2.o, m2.a10, (show (1 : Int32).toNatClampNeg = 1 by decide), g2.2.2.2.1]
    exact ⟨vp_in_nI (n := 1) (by omega) (by omega), hq h2 ⟨c2, a2, l, m2, gw_mR ok r g2⟩ o2⟩
  · rw [if_neg hr] at hq
    refine go_ok okF1 (C := cdX11_grow) (by rfl) [] 40 (by exact Nat.le_of_ble_eq_true rfl) ?_
    simp (maxSteps := 2000000) only [go, stp, inS, ↓reduceIte, Bool.false_eq_true, Nat.reduceLT, Nat.reduceEqDiff, Nat.reduceAdd, ldI, ldL, ldA, st1, st2, okS, List.getElem?_cons_zero, List.getElem?_cons_succ, List.length_cons, List.length_nil, List.set_cons_zero, List.set_cons_succ, callP, callF, popN, ct, Value.category, cI, List.getD_cons_zero, List.getD_cons_succ, and_self, and_true, true_and, Nat.zero_le, Nat.reduceLeDiff, Nat.add_zero, Nat.zero_add, List.nil_append, List.cons_append, Option.toList_some, Option.toList_none, List.append_nil, hset_ss, true_or, or_true, eq_self, beq_self_eq_true, List.drop_succ_cons, List.drop_zero, swT, swL, hset_ap, not_true_eq_false, not_false_eq_true, true_implies, false_implies, implies_true, Int32.reduceLE, Int32.reduceLT, Int32.reduceAdd, Int32.reduceSub, Int32.reduceOfInt, Int32.reduceToNatClampNeg, i10, i01, Nat.add_left_cancel_iff, Nat.left_eq_add, Nat.add_eq_left, cdX11_grow, F1, eq_false hr]
    exact hq h m0 sOff.rf
theorem pR_rf (s : pT) : pR s s := by
  obtain ⟨ac, ot, om, mi, sk, G, L, R⟩ := s
  exact ⟨rfl, rfl, rfl, rfl, rfl, fun _ _ => rfl, fun _ _ _ => Or.inr rfl, fun _ _ _ => Or.inr rfl⟩
def tx1 (M : MS) (B : Nat → Int32) (len : Nat) : MS := txM M 1 B (pS B len) len
theorem tx1_ok (ok : MOk M) {B : Nat → Int32} {len : Nat} (hl : len ≤ 40) : MOk (tx1 M B len) := by
  refine ⟨ok.nr, ok.cv, fun t ht => ?_, fun t ht => ?_, fun t ht => ?_, ok.ru, ok.fa, ok.p8, ok.pn, ok.ps, ok.sz, ok.fm, ok.it⟩
  · show fset M.len 1 len t ≤ 40
    rcases (by omega : t = 0 ∨ t = 1) with rfl | rfl
    · rw [fset_n _ _ (by omega)]; exact ok.ln 0 (by omega)
    · rw [fset_s]; exact hl
  · show pI (fset M.s 1 (pS B len) t) (fset M.len 1 len t)
    rcases (by omega : t = 0 ∨ t = 1) with rfl | rfl
    · rw [fset_n _ _ (by omega), fset_n _ _ (by omega)]; exact ok.pi 0 (by omega)
    · rw [fset_s, fset_s]; exact pS_I B len
  · show pR (fset M.s 1 (pS B len) t) (pS (fset M.B 1 B t) (fset M.len 1 len t))
    rcases (by omega : t = 0 ∨ t = 1) with rfl | rfl
    · rw [fset_n _ _ (by omega), fset_n _ _ (by omega), fset_n _ _ (by omega)]; exact ok.pr 0 (by omega)
    · rw [fset_s, fset_s, fset_s]; exact pR_rf _
theorem tx1_tx1 {B B' : Nat → Int32} {len len' : Nat} {s : pT} : txM (tx1 M B len) 1 B' s len' = txM M 1 B' s len' := by
  show mkM _ _ (fset (fset M.B 1 B) 1 B') (fset (fset M.s 1 (pS B len)) 1 s) (fset (fset M.len 1 len) 1 len') _ _ _ _ _ _ _ = _
  rw [fsetset, fsetset, fsetset]
  rfl
-- a text that is whole is asked, and what the model keeps of another stays
set_option maxRecDepth 100000 in
set_option maxHeartbeats 400000 in
theorem D_without1 (m : MH h c a l) (r : mR M c a l) (ok : MOk M) (hw : pwB (M.s 1) = true) (hq : ∀ h' c' a' l', MH h' c' a' l' → askT M (sM M 1) c' a' l' → a' 41 = a 41 → sOff h h' 52 80 → Q (some (.int 0)) n h') : Ok 197 [.ref 52, .int 1] n h Q := by
  have hnr := ok.nr
  have hk := ok.sok (t := 1) (by omega) hw
  obtain ⟨p1, p2, p3⟩ := pR_eq (len := M.len 1) (ok.pr 1 (by omega))
  refine ok_of kMX11_without kCX11_without (Nat.le_of_ble_eq_true rfl) (fun z => ?_)
  change A z _ _ 0 0 _ 0 [some (.ref 52), some (.int 1)] [] _
  refine go_ok okF1 (C := cdX11_without) (by rfl) [] 40 (by exact Nat.le_of_ble_eq_true rfl) ?_
  simp (maxSteps := 2000000) only [go, stp, inS, ↓reduceIte, Bool.false_eq_true, Nat.reduceLT, Nat.reduceEqDiff, Nat.reduceAdd, ldI, ldL, ldA, st1, st2, okS, List.getElem?_cons_zero, List.getElem?_cons_succ, List.length_cons, List.length_nil, List.set_cons_zero, List.set_cons_succ, callP, callF, popN, ct, Value.category, cI, List.getD_cons_zero, List.getD_cons_succ, and_self, and_true, true_and, Nat.zero_le, Nat.reduceLeDiff, Nat.add_zero, Nat.zero_add, List.nil_append, List.cons_append, Option.toList_some, Option.toList_none, List.append_nil, hset_ss, true_or, or_true, eq_self, beq_self_eq_true, List.drop_succ_cons, List.drop_zero, swT, swL, hset_ap, not_true_eq_false, not_false_eq_true, true_implies, false_implies, implies_true, Int32.reduceLE, Int32.reduceLT, Int32.reduceAdd, Int32.reduceSub, Int32.reduceOfInt, Int32.reduceToNatClampNeg, i10, i01, Nat.add_left_cancel_iff, Nat.left_eq_add, Nat.add_eq_left, cdX11_without, F1, (show ((0 : Int32) ≤ 1 ∧ (1 : Int32) < 2) = True from by decide), m.o]
  refine D_reads (t := 1) m (r.rdT ok (by omega)) (fun h1 c1 a1 m1 fc fa o1 hr => ?_)
  rw [p3, (flt_m1 (ok.ln 1 (by omega))).mpr hw]
  rw [p2] at hr
  obtain ⟨q1, q2, q3⟩ := hr hw
  have r1 := r.fc fc fa
  have rd : rdy M (sM M 1) c1 a1 (kL l c1) := ⟨r1.kl c1, ⟨q2, q3⟩, q1, rfl, rfl⟩
  refine go_ok okF1 (C := cdX11_without) (by rfl) [] 40 (by exact Nat.le_of_ble_eq_true rfl) ?_
  simp (maxSteps := 2000000) only [go, stp, inS, ↓reduceIte, Bool.false_eq_true, Nat.reduceLT, Nat.reduceEqDiff, Nat.reduceAdd, ldI, ldL, ldA, st1, st2, okS, List.getElem?_cons_zero, List.getElem?_cons_succ, List.length_cons, List.length_nil, List.set_cons_zero, List.set_cons_succ, callP, callF, popN, ct, Value.category, cI, List.getD_cons_zero, List.getD_cons_succ, and_self, and_true, true_and, Nat.zero_le, Nat.reduceLeDiff, Nat.add_zero, Nat.zero_add, List.nil_append, List.cons_append, Option.toList_some, Option.toList_none, List.append_nil, hset_ss, true_or, or_true, eq_self, beq_self_eq_true, List.drop_succ_cons, List.drop_zero, swT, swL, hset_ap, not_true_eq_false, not_false_eq_true, true_implies, false_implies, implies_true, Int32.reduceLE, Int32.reduceLT, Int32.reduceAdd, Int32.reduceSub, Int32.reduceOfInt, Int32.reduceToNatClampNeg, i10, i01, Nat.add_left_cancel_iff, Nat.left_eq_add, Nat.add_eq_left, cdX11_without, F1, m1.o]
  refine D_allRows m1 r1.nr ?_
  refine go_ok okF1 (C := cdX11_without) (by rfl) [] 40 (by exact Nat.le_of_ble_eq_true rfl) ?_
  simp (maxSteps := 2000000) only [go, stp, inS, ↓reduceIte, Bool.false_eq_true, Nat.reduceLT, Nat.reduceEqDiff, Nat.reduceAdd, ldI, ldL, ldA, st1, st2, okS, List.getElem?_cons_zero, List.getElem?_cons_succ, List.length_cons, List.length_nil, List.set_cons_zero, List.set_cons_succ, callP, callF, popN, ct, Value.category, cI, List.getD_cons_zero, List.getD_cons_succ, and_self, and_true, true_and, Nat.zero_le, Nat.reduceLeDiff, Nat.add_zero, Nat.zero_add, List.nil_append, List.cons_append, Option.toList_some, Option.toList_none, List.append_nil, hset_ss, true_or, or_true, eq_self, beq_self_eq_true, List.drop_succ_cons, List.drop_zero, swT, swL, hset_ap, not_true_eq_false, not_false_eq_true, true_implies, false_implies, implies_true, Int32.reduceLE, Int32.reduceLT, Int32.reduceAdd, Int32.reduceSub, Int32.reduceOfInt, Int32.reduceToNatClampNeg, i10, i01, Nat.add_left_cancel_iff, Nat.left_eq_add, Nat.add_eq_left, cdX11_without, F1, m1.o]
  refine D_asks (m1.kl c1) r1.nr hnr (fun h2 g m2 hg o2 => ?_)
  have rd2 := (rd.sc 7 (nI (pcN (alm M.nr) M.nr)) (by omega)).sa (fset a1 8 g) (fun i i1 i2 i3 i4 => fset_n _ _ i1)
  have as : askd (upd c1 7 (nI (pcN (alm M.nr) M.nr))) (fset a1 8 g) M.f M.nr := ⟨by rw [pcN_all (by omega) (Nat.le_refl _)]; rfl, hnr, fun i hi => by
    have := hg (i / 3) (by omega) (by rw [b_alm (by omega) (by omega)]; simp; omega) (i % 3) (by omega)
    rw [pcN_all (by omega) (by omega), show i / 3 * 3 + i % 3 = i by omega] at this
    show g i = _
    rw [this]; exact r1.tb hi⟩
  refine go_ok okF1 (C := cdX11_without) (by rfl) [] 40 (by exact Nat.le_of_ble_eq_true rfl) ?_
  simp (maxSteps := 2000000) only [go, stp, inS, ↓reduceIte, Bool.false_eq_true, Nat.reduceLT, Nat.reduceEqDiff, Nat.reduceAdd, ldI, ldL, ldA, st1, st2, okS, List.getElem?_cons_zero, List.getElem?_cons_succ, List.length_cons, List.length_nil, List.set_cons_zero, List.set_cons_succ, callP, callF, popN, ct, Value.category, cI, List.getD_cons_zero, List.getD_cons_succ, and_self, and_true, true_and, Nat.zero_le, Nat.reduceLeDiff, Nat.add_zero, Nat.zero_add, List.nil_append, List.cons_append, Option.toList_some, Option.toList_none, List.append_nil, hset_ss, true_or, or_true, eq_self, beq_self_eq_true, List.drop_succ_cons, List.drop_zero, swT, swL, hset_ap, not_true_eq_false, not_false_eq_true, true_implies, false_implies, implies_true, Int32.reduceLE, Int32.reduceLT, Int32.reduceAdd, Int32.reduceSub, Int32.reduceOfInt, Int32.reduceToNatClampNeg, i10, i01, Nat.add_left_cancel_iff, Nat.left_eq_add, Nat.add_eq_left, cdX11_without, F1, m2.o]
  refine D_lays (how := 0) (o := 0) m2 rd2.2.1 hk hk.1 (by omega) (fun h3 a3 G L R N m3 hl hf he hN h0 o3 => ?_)
  refine go_ok okF1 (C := cdX11_without) (by rfl) [] 40 (by exact Nat.le_of_ble_eq_true rfl) ?_
  simp (maxSteps := 2000000) only [go, stp, inS, ↓reduceIte, Bool.false_eq_true, Nat.reduceLT, Nat.reduceEqDiff, Nat.reduceAdd, ldI, ldL, ldA, st1, st2, okS, List.getElem?_cons_zero, List.getElem?_cons_succ, List.length_cons, List.length_nil, List.set_cons_zero, List.set_cons_succ, callP, callF, popN, ct, Value.category, cI, List.getD_cons_zero, List.getD_cons_succ, and_self, and_true, true_and, Nat.zero_le, Nat.reduceLeDiff, Nat.add_zero, Nat.zero_add, List.nil_append, List.cons_append, Option.toList_some, Option.toList_none, List.append_nil, hset_ss, true_or, or_true, eq_self, beq_self_eq_true, List.drop_succ_cons, List.drop_zero, swT, swL, hset_ap, not_true_eq_false, not_false_eq_true, true_implies, false_implies, implies_true, Int32.reduceLE, Int32.reduceLT, Int32.reduceAdd, Int32.reduceSub, Int32.reduceOfInt, Int32.reduceToNatClampNeg, i10, i01, Nat.add_left_cancel_iff, Nat.left_eq_add, Nat.add_eq_left, cdX11_without, F1]
  obtain ⟨e1, e2⟩ := h0 rfl
  rw [sz_root hk.2.2.1 hk.1] at e1
  subst e1
  refine hq h3 _ a3 _ m3 ⟨(rd2.sc 21 _ (by omega)).sa a3 (fun i i1 i2 i3 i4 => hf i (by omega)), ⟨as.1, as.2.1, by rw [hf 8 (by omega)]; exact as.2.2⟩, G, L, R, hl, e2⟩ ?_ ((o1.tr o2).tr o3)
  rw [hf 41 (by omega), fset_n _ _ (by omega)]
  exact fa 41 (by omega)
set_option maxRecDepth 100000 in
set_option maxHeartbeats 400000 in
theorem D_firedF {s : pT} (m : MH h c a l) (k : askT M s c a l) (hk : sOk s) (ok : MOk M) (hq : ∀ h' c' a', MH h' c' a' l → rdy M s c' a' l → a' 41 = a 41 → sOff h h' 52 80 → Q (some (.int (fiM M s))) n h') : Ok 204 [.ref 52] n h Q := by
  have hnr := ok.nr
  obtain ⟨rd, as, G, L, R, hl, hA⟩ := id k
  refine ok_of kMX11_firedNow kCX11_firedNow (Nat.le_of_ble_eq_true rfl) (fun z => ?_)
  change A z _ _ 0 0 _ 0 [some (.ref 52), none] [] _
  refine go_ok okF1 (C := cdX11_firedNow) (by rfl) [] 40 (by exact Nat.le_of_ble_eq_true rfl) ?_
  simp (maxSteps := 2000000) only [go, stp, inS, ↓reduceIte, Bool.false_eq_true, Nat.reduceLT, Nat.reduceEqDiff, Nat.reduceAdd, ldI, ldL, ldA, st1, st2, okS, List.getElem?_cons_zero, List.getElem?_cons_succ, List.length_cons, List.length_nil, List.set_cons_zero, List.set_cons_succ, callP, callF, popN, ct, Value.category, cI, List.getD_cons_zero, List.getD_cons_succ, and_self, and_true, true_and, Nat.zero_le, Nat.reduceLeDiff, Nat.add_zero, Nat.zero_add, List.nil_append, List.cons_append, Option.toList_some, Option.toList_none, List.append_nil, hset_ss, true_or, or_true, eq_self, beq_self_eq_true, List.drop_succ_cons, List.drop_zero, swT, swL, hset_ap, not_true_eq_false, not_false_eq_true, true_implies, false_implies, implies_true, Int32.reduceLE, Int32.reduceLT, Int32.reduceAdd, Int32.reduceSub, Int32.reduceOfInt, Int32.reduceToNatClampNeg, i10, i01, Nat.add_left_cancel_iff, Nat.left_eq_add, Nat.add_eq_left, cdX11_firedNow, F1, m.o]
  refine D_whichNow m hl hk.1 as.1 hnr (fun h' v g m' hv o => ?_)
  rw [rd.1.ru, rd.1.fa] at hv
  have e2 : v = fiM M s := b_ext fun i hi => by
    unfold fiM
    rw [b_mB _ _ (by omega) i hi, Bool.eq_iff_iff, hv i hi]
    simp only [hi, decide_true, Bool.true_and, Bool.and_eq_true, prB_iff]
    refine and_congr_right (fun _ => ?_)
    unfold fiQ fiP
    refine or_congr ?_ (and_congr_right (fun _ => ?_))
    · constructor
      · rintro ⟨k, h1, r, h2, h3⟩; exact ⟨k, h1, r, h2, (L_FR hk as hl hA h2 h1).mp h3⟩
      · rintro ⟨k, h1, r, h2, h3⟩; exact ⟨k, h1, r, h2, (L_FR hk as hl hA h2 h1).mpr h3⟩
    · have yy : ∀ r, r < M.nr → yB (fun r => ev (bt (M.ru &&& M.fa)) G s.1 L R (a 8) r 0) (alm M.nr) r = yB (fun r => evS s M.f (bt (M.ru &&& M.fa)) r 0) (alm M.nr) r := fun r hr => by unfold yB; dsimp only; rw [L_ev hk as hl hA hr hk.1]
      have rr : ∀ r, r < M.nr → rpB (a 8) (fun r => ev (bt (M.ru &&& M.fa)) G s.1 L R (a 8) r 0) (alm M.nr) r = rpB M.f (fun r => evS s M.f (bt (M.ru &&& M.fa)) r 0) (alm M.nr) r := fun r hr => by
        unfold rpB
        exact anyB_ext (fun o ho => by rw [yy o (by omega), sameB_upd (by omega) hr as.2.2])
      constructor
      · rintro ⟨r, h1, h2, h3⟩; exact ⟨r, h1, by rw [← yy r h1]; exact h2, by rw [← rr r h1]; exact h3⟩
      · rintro ⟨r, h1, h2, h3⟩; exact ⟨r, h1, by rw [yy r h1]; exact h2, by rw [rr r h1]; exact h3⟩
  refine go_ok okF1 (C := cdX11_firedNow) (by rfl) [] 40 (by exact Nat.le_of_ble_eq_true rfl) ?_
  simp (maxSteps := 2000000) only [go, stp, inS, ↓reduceIte, Bool.false_eq_true, Nat.reduceLT, Nat.reduceEqDiff, Nat.reduceAdd, ldI, ldL, ldA, st1, st2, okS, List.getElem?_cons_zero, List.getElem?_cons_succ, List.length_cons, List.length_nil, List.set_cons_zero, List.set_cons_succ, callP, callF, popN, ct, Value.category, cI, List.getD_cons_zero, List.getD_cons_succ, and_self, and_true, true_and, Nat.zero_le, Nat.reduceLeDiff, Nat.add_zero, Nat.zero_add, List.nil_append, List.cons_append, Option.toList_some, Option.toList_none, List.append_nil, hset_ss, true_or, or_true, eq_self, beq_self_eq_true, List.drop_succ_cons, List.drop_zero, swT, swL, hset_ap, not_true_eq_false, not_false_eq_true, true_implies, false_implies, implies_true, Int32.reduceLE, Int32.reduceLT, Int32.reduceAdd, Int32.reduceSub, Int32.reduceOfInt, Int32.reduceToNatClampNeg, i10, i01, Nat.add_left_cancel_iff, Nat.left_eq_add, Nat.add_eq_left, cdX11_firedNow, F1, m'.o, (show upd c 30 v 30 = fiM M s from e2)]
  exact hq h' _ _ m' ((rd.sc 30 _ (by omega)).sa _ (fun i i1 i2 i3 i4 => fset_n _ _ (by omega))) (fset_n _ _ (by omega)) o
theorem np_any {P : Nat → Int32} {x : Int32} (h : syP P) (hx : ∀ i, 8 ≤ i → bt x i = false) : (0 < prT (fun i j => bt (npF P x i) j)) ↔ anyB 8 (fun q => !(npF P x q == 0)) = true := by
  have hn := np_sy h hx
  rw [← pr2_eq, anyB_iff]
  constructor
  · intro w
    have r0 : ∀ p : Nat → Nat → Bool, ∀ a m, 0 < rowS p a m → ∃ j, j < m ∧ p a (a + 1 + j) = true := fun p a m => by
      induction m with
      | zero => intro w; rw [rowS] at w; omega
      | succ m ih =>
        intro w
        rw [rowS] at w
        cases hp : p a (a + 1 + m) with
        | true => exact ⟨m, by omega, hp⟩
        | false =>
          rw [hp] at w
          obtain ⟨j, h1, h2⟩ := ih (by have : b2n false = 0 := rfl; omega)
          exact ⟨j, by omega, h2⟩
    have p0 : ∀ p : Nat → Nat → Bool, ∀ m, 0 < pr2 p m → ∃ a, a < m ∧ 0 < rowS p a (7 - a) := fun p m => by
      induction m with
      | zero => intro w; rw [pr2] at w; omega
      | succ m ih =>
        intro w
        rw [pr2] at w
        by_cases e : 0 < rowS p m (7 - m)
        · exact ⟨m, by omega, e⟩
        · obtain ⟨a, h1, h2⟩ := ih (by omega)
          exact ⟨a, by omega, h2⟩
    obtain ⟨i, h1, h2⟩ := p0 _ _ w
    obtain ⟨j, h3, h4⟩ := r0 _ _ _ h2
    refine ⟨i, h1, ?_⟩
    have : ¬ npF P x i = 0 := (b_ne0 _).mpr ⟨i + 1 + j, by omega, h4⟩
    simpa using this
  · rintro ⟨i, h1, h2⟩
    have h2 : ¬ npF P x i = 0 := by simpa using h2
    obtain ⟨j, h3, h4⟩ := (b_ne0 _).mp h2
    have j8 : j < 8 := by
      rcases Nat.lt_or_ge j 8 with q | q
      · exact q
      · rw [hn.1 i h1 j q] at h4; cases h4
    have rS : ∀ p : Nat → Nat → Bool, ∀ a m j, j < m → p a (a + 1 + j) = true → 0 < rowS p a m := fun p a m => by
      induction m with
      | zero => intro j hj; omega
      | succ m ih =>
        intro j hj hp
        rw [rowS]
        by_cases e : j = m
        · subst e; rw [hp]; have : b2n true = 1 := rfl; omega
        · have := ih j (by omega) hp; omega
    have pS' : ∀ p : Nat → Nat → Bool, ∀ m a, a < m → 0 < rowS p a (7 - a) → 0 < pr2 p m := fun p m => by
      induction m with
      | zero => intro a ha; omega
      | succ m ih =>
        intro a ha hp
        rw [pr2]
        by_cases e : a = m
        · subst e; omega
        · have := ih a (by omega) hp; omega
    rcases Nat.lt_trichotomy i j with q | q | q
    · exact pS' _ 8 i h1 (rS _ i (7 - i) (j - i - 1) (by omega) (by rw [show i + 1 + (j - i - 1) = j by omega]; exact h4))
    · subst q; rw [hn.2.1 i h1] at h4; cases h4
    · exact pS' _ 8 j j8 (rS _ j (7 - j) (i - j - 1) (by omega) (by rw [show j + 1 + (i - j - 1) = i by omega, hn.2.2 j i j8 h1]; exact h4))
set_option maxRecDepth 100000 in
set_option maxHeartbeats 400000 in
theorem D_next {seed r0 : Int32} (m : MI h M) (ok : MOk M) (hq : ∀ h', MI h' M → sOff h h' 52 80 → Q (some (.int (stNext M seed r0))) n h') : Ok 227 [.ref 52, .int seed, .int r0] n h Q := by
  unfold stNext at hq
  have m0 := m
  obtain ⟨c, a, l, m, r⟩ := m
  have hl1 := ok.ln 1 (by omega)
  refine ok_of kMX11_next kCX11_next (Nat.le_of_ble_eq_true rfl) (fun z => ?_)
  change A z _ _ 0 0 _ 0 [some (.ref 52), some (.int seed), some (.int r0), none, none, none, none] [] _
  by_cases hr : 1 ≤ r0 ∧ r0 ≤ 9
  · rw [if_pos hr] at hq
    obtain ⟨j, h1, h9, rfl⟩ := i_rng (a := 1) (b := 9) (by omega) hr.1 hr.2 (by omega)
    rw [i_cl (show j < 2147483648 by omega)] at hq
    refine go_ok okF1 (C := cdX11_next) (by rfl) [20] 40 (by exact Nat.le_of_ble_eq_true rfl) ?_
    simp (maxSteps := 2000000) only [go, stp, inS, ↓reduceIte, Bool.false_eq_true, Nat.reduceLT, Nat.reduceEqDiff, Nat.reduceAdd, ldI, ldL, ldA, st1, st2, okS, List.getElem?_cons_zero, List.getElem?_cons_succ, List.length_cons, List.length_nil, List.set_cons_zero, List.set_cons_succ, callP, callF, popN, ct, Value.category, cI, List.getD_cons_zero, List.getD_cons_succ, and_self, and_true, true_and, Nat.zero_le, Nat.reduceLeDiff, Nat.add_zero, Nat.zero_add, List.nil_append, List.cons_append, Option.toList_some, Option.toList_none, List.append_nil, hset_ss, true_or, or_true, eq_self, beq_self_eq_true, List.drop_succ_cons, List.drop_zero, swT, swL, hset_ap, not_true_eq_false, not_false_eq_true, true_implies, false_implies, implies_true, Int32.reduceLE, Int32.reduceLT, Int32.reduceAdd, Int32.reduceSub, Int32.reduceOfInt, Int32.reduceToNatClampNeg, i10, i01, Nat.add_left_cancel_iff, Nat.left_eq_add, Nat.add_eq_left, cdX11_next, F1, eq_true hr, m.o, m.a10, (show (1 : Int32).toNatClampNeg = 1 by decide), r.ln (show 1 < 2 by omega)]
    refine ⟨vp_in_nI (n := 1) (by omega) (by omega), ?_⟩
    have i40 : ∀ k, (40 : Int32) + nI k = nI (40 + k) := fun k => nI_add 40 k
    -- what was typed comes back
    have back : ∀ w k h' c' a' l' B' len' (v : Int32) o6, k + w = 40 → MH h' c' a' l' → mR (tx1 M B' len') c' (fset a' 10 (upd (a' 10) 1 (nI len'))) l' → a' 10 1 = nI (M.len 1) → (∀ i, i < M.len 1 → a' 41 i = M.B 1 i) → (∀ i, i < k → i < M.len 1 → a' 9 (40 + i) = M.B 1 i) → (∀ i, i < M.len 0 → a' 9 i = M.B 0 i) → sOff h h' 52 80 → (∀ h', MI h' M → sOff h h' 52 80 → Q (some (.int v)) n h') → A z 227 n 0 0 h' 125 [some (.ref 52), some (.int seed), some (.int (nI j)), some (.int (nI (M.len 1))), some (.int v), some (.int (nI k)), o6] [] Q := by
      intro w
      induction w with
      | zero =>
        intro k h' c' a' l' B' len' v o6 hw m' r' k10 k41 k9 k90 o' fin
        obtain rfl : k = 40 := by omega
        refine go_ok okF1 (C := cdX11_next) (by rfl) [] 40 (by exact Nat.le_of_ble_eq_true rfl) ?_
        simp (maxSteps := 2000000) only [go, stp, inS, ↓reduceIte, Bool.false_eq_true, Nat.reduceLT, Nat.reduceEqDiff, Nat.reduceAdd, ldI, ldL, ldA, st1, st2, okS, List.getElem?_cons_zero, List.getElem?_cons_succ, List.length_cons, List.length_nil, List.set_cons_zero, List.set_cons_succ, callP, callF, popN, ct, Value.category, cI, List.getD_cons_zero, List.getD_cons_succ, and_self, and_true, true_and, Nat.zero_le, Nat.reduceLeDiff, Nat.add_zero, Nat.zero_add, List.nil_append, List.cons_append, Option.toList_some, Option.toList_none, List.append_nil, hset_ss, true_or, or_true, eq_self, beq_self_eq_true, List.drop_succ_cons, List.drop_zero, swT, swL, hset_ap, not_true_eq_false, not_false_eq_true, true_implies, false_implies, implies_true, Int32.reduceLE, Int32.reduceLT, Int32.reduceAdd, Int32.reduceSub, Int32.reduceOfInt, Int32.reduceToNatClampNeg, i10, i01, Nat.add_left_cancel_iff, Nat.left_eq_add, Nat.add_eq_left, cdX11_next, F1, (show (40 : Int32) ≤ nI 40 by decide)]
        refine fin h' ⟨c', a', l', m', r'.1, r'.2.1, fun t ht => ?_, fun t i ht hi => ?_, r'.2.2.2.2⟩ o'
        · rcases (by omega : t = 0 ∨ t = 1) with rfl | rfl
          · have := r'.2.2.1 0 (by omega)
            exact this
          · exact k10
        · rcases (by omega : t = 0 ∨ t = 1) with rfl | rfl
          · rw [show 40 * 0 + i = i by omega]; exact k90 i hi
          · rw [show 40 * 1 + i = 40 + i by omega]; exact k9 i (by omega) hi
      | succ w ih =>
        intro k h' c' a' l' B' len' v o6 hw m' r' k10 k41 k9 k90 o' fin
        have e : ¬ 40 ≤ nI k := by rw [show (40 : Int32) = nI 40 from rfl, i_le (by omega) (by omega)]; omega
        have l0 := ok.ln 0 (by omega)
        refine go_ok okF1 (C := cdX11_next) (by rfl) [125] 40 (by exact Nat.le_of_ble_eq_true rfl) ?_
        simp (maxSteps := 2000000) only [go, stp, inS, ↓reduceIte, Bool.false_eq_true, Nat.reduceLT, Nat.reduceEqDiff, Nat.reduceAdd, ldI, ldL, ldA, st1, st2, okS, List.getElem?_cons_zero, List.getElem?_cons_succ, List.length_cons, List.length_nil, List.set_cons_zero, List.set_cons_succ, callP, callF, popN, ct, Value.category, cI, List.getD_cons_zero, List.getD_cons_succ, and_self, and_true, true_and, Nat.zero_le, Nat.reduceLeDiff, Nat.add_zero, Nat.zero_add, List.nil_append, List.cons_append, Option.toList_some, Option.toList_none, List.append_nil, hset_ss, true_or, or_true, eq_self, beq_self_eq_true, List.drop_succ_cons, List.drop_zero, swT, swL, hset_ap, not_true_eq_false, not_false_eq_true, true_implies, false_implies, implies_true, Int32.reduceLE, Int32.reduceLT, Int32.reduceAdd, Int32.reduceSub, Int32.reduceOfInt, Int32.reduceToNatClampNeg, i10, i01, Nat.add_left_cancel_iff, Nat.left_eq_add, Nat.add_eq_left, cdX11_next, F1, e, m'.o, m'.a9, m'.a41, i40, i_cl (show 40 + k < 2147483648 by omega), i_cl (show k < 2147483648 by omega), nI_1]
        repeat refine ⟨vp_in_nI (by omega) (by omega), ?_⟩
        refine ih (k + 1) _ c' _ l' (fun i => upd (a' 9) (40 + k) (a' 41 k) (40 + i)) len' v _ (by omega) (m'.s9 (upd (a' 9) (40 + k) (a' 41 k))) ?_ k10 k41 (fun i h1 h2 => ?_) (fun i hi => ?_) (o'.set (by omega) (by omega)) fin
        · refine ⟨r'.1, r'.2.1, r'.2.2.1, fun t i ht hi => ?_, r'.2.2.2.2⟩
          rcases (by omega : t = 0 ∨ t = 1) with rfl | rfl
          · have hi : i < M.len 0 := hi
            show upd (a' 9) (40 + k) (a' 41 k) (40 * 0 + i) = M.B 0 i
            rw [pk_un (by omega), show 40 * 0 + i = i by omega]; exact k90 i hi
          · show upd (a' 9) (40 + k) (a' 41 k) (40 * 1 + i) = upd (a' 9) (40 + k) (a' 41 k) (40 + i)
            rw [show 40 * 1 + i = 40 + i by omega]
        · show upd (a' 9) (40 + k) (a' 41 k) (40 + i) = _
          by_cases ei : i = k
          · subst ei; rw [pk_us]; exact k41 i h2
          · rw [pk_un (by omega)]; exact k9 i (by omega) h2
        · show upd (a' 9) (40 + k) (a' 41 k) i = _
          rw [pk_un (by omega)]; exact k90 i hi
    have done : ∀ h' c' a' l' B' len' (v : Int32) (k5 o6), MH h' c' a' l' → mR (tx1 M B' len') c' a' l' → (∀ i, i < M.len 1 → a' 41 i = M.B 1 i) → sOff h h' 52 80 → (∀ h', MI h' M → sOff h h' 52 80 → Q (some (.int v)) n h') → A z 227 n 0 0 h' 115 [some (.ref 52), some (.int seed), some (.int (nI j)), some (.int (nI (M.len 1))), some (.int v), k5, o6] [] Q := by
      intro h' c' a' l' B' len' v k5 o6 m' r' k41 o' fin
      have l0 := ok.ln 0 (by omega)
      refine go_ok okF1 (C := cdX11_next) (by rfl) [125] 40 (by exact Nat.le_of_ble_eq_true rfl) ?_
      simp (maxSteps := 2000000) only [go, stp, inS, ↓reduceIte, Bool.false_eq_true, Nat.reduceLT, Nat.reduceEqDiff, Nat.reduceAdd, ldI, ldL, ldA, st1, st2, okS, List.getElem?_cons_zero, List.getElem?_cons_succ, List.length_cons, List.length_nil, List.set_cons_zero, List.set_cons_succ, callP, callF, popN, ct, Value.category, cI, List.getD_cons_zero, List.getD_cons_succ, and_self, and_true, true_and, Nat.zero_le, Nat.reduceLeDiff, Nat.add_zero, Nat.zero_add, List.nil_append, List.cons_append, Option.toList_some, Option.toList_none, List.append_nil, hset_ss, true_or, or_true, eq_self, beq_self_eq_true, List.drop_succ_cons, List.drop_zero, swT, swL, hset_ap, not_true_eq_false, not_false_eq_true, true_implies, false_implies, implies_true, Int32.reduceLE, Int32.reduceLT, Int32.reduceAdd, Int32.reduceSub, Int32.reduceOfInt, Int32.reduceToNatClampNeg, i10, i01, Nat.add_left_cancel_iff, Nat.left_eq_add, Nat.add_eq_left, cdX11_next, F1, m'.o, m'.a10, (show (1 : Int32).toNatClampNeg = 1 by decide)]
      refine ⟨vp_in_nI (n := 1) (by omega) (by omega), ?_⟩
      refine back 40 0 _ c' _ l' B' len' v _ (by omega) (m'.s10 (upd (a' 10) 1 (nI (M.len 1)))) ?_ rfl k41 (fun i h1 => absurd h1 (by omega)) (fun i hi => ?_) (o'.set (by omega) (by omega)) fin
      · refine ⟨r'.1, r'.2.1, fun t ht => ?_, r'.2.2.2.1, r'.2.2.2.2⟩
        rcases (by omega : t = 0 ∨ t = 1) with rfl | rfl
        · show upd (upd (a' 10) 1 (nI (M.len 1))) 1 (nI len') 0 = nI (M.len 0)
          rw [pk_un (by omega), pk_un (by omega)]; exact r'.2.2.1 0 (by omega)
        · show upd (upd (a' 10) 1 (nI (M.len 1))) 1 (nI len') 1 = nI (fset M.len 1 len' 1)
          rw [fset_s]; exact pk_us
      · have := r'.2.2.2.1 0 i (by omega) hi
        rw [show 40 * 0 + i = i by omega] at this
        exact this
    have seeds : ∀ w k h' c' a' l' B' len' o6, k + w = 30 → len' ≤ 40 → MH h' c' a' l' → mR (tx1 M B' len') c' a' l' → (∀ i, i < M.len 1 → a' 41 i = M.B 1 i) → sOff h h' 52 80 → fstR (nxP M seed j) 30 0 = fstR (nxP M seed j) w k → A z 227 n 0 0 h' 56 [some (.ref 52), some (.int seed), some (.int (nI j)), some (.int (nI (M.len 1))), some (.int (-1)), some (.int (nI k)), o6] [] Q := by
      intro w
      induction w with
      | zero =>
        intro k h' c' a' l' B' len' o6 hw hlen m' r' k41 o' hf
        obtain rfl : k = 30 := by omega
        refine go_ok okF1 (C := cdX11_next) (by rfl) [115] 40 (by exact Nat.le_of_ble_eq_true rfl) ?_
        simp (maxSteps := 2000000) only [go, stp, inS, ↓reduceIte, Bool.false_eq_true, Nat.reduceLT, Nat.reduceEqDiff, Nat.reduceAdd, ldI, ldL, ldA, st1, st2, okS, List.getElem?_cons_zero, List.getElem?_cons_succ, List.length_cons, List.length_nil, List.set_cons_zero, List.set_cons_succ, callP, callF, popN, ct, Value.category, cI, List.getD_cons_zero, List.getD_cons_succ, and_self, and_true, true_and, Nat.zero_le, Nat.reduceLeDiff, Nat.add_zero, Nat.zero_add, List.nil_append, List.cons_append, Option.toList_some, Option.toList_none, List.append_nil, hset_ss, true_or, or_true, eq_self, beq_self_eq_true, List.drop_succ_cons, List.drop_zero, swT, swL, hset_ap, not_true_eq_false, not_false_eq_true, true_implies, false_implies, implies_true, Int32.reduceLE, Int32.reduceLT, Int32.reduceAdd, Int32.reduceSub, Int32.reduceOfInt, Int32.reduceToNatClampNeg, i10, i01, Nat.add_left_cancel_iff, Nat.left_eq_add, Nat.add_eq_left, cdX11_next, F1, (show (30 : Int32) ≤ nI 30 by decide)]
        rw [hf] at hq
        exact done h' c' a' l' B' len' (-1) _ _ m' r' k41 o' hq
      | succ w ih =>
        intro k h' c' a' l' B' len' o6 hw hlen m' r' k41 o' hf
        have e : ¬ 30 ≤ nI k := by rw [show (30 : Int32) = nI 30 from rfl, i_le (by omega) (by omega)]; omega
        have okB := tx1_ok ok (B := B') (len := len') hlen
        refine go_ok okF1 (C := cdX11_next) (by rfl) [] 40 (by exact Nat.le_of_ble_eq_true rfl) ?_
        simp (maxSteps := 2000000) only [go, stp, inS, ↓reduceIte, Bool.false_eq_true, Nat.reduceLT, Nat.reduceEqDiff, Nat.reduceAdd, ldI, ldL, ldA, st1, st2, okS, List.getElem?_cons_zero, List.getElem?_cons_succ, List.length_cons, List.length_nil, List.set_cons_zero, List.set_cons_succ, callP, callF, popN, ct, Value.category, cI, List.getD_cons_zero, List.getD_cons_succ, and_self, and_true, true_and, Nat.zero_le, Nat.reduceLeDiff, Nat.add_zero, Nat.zero_add, List.nil_append, List.cons_append, Option.toList_some, Option.toList_none, List.append_nil, hset_ss, true_or, or_true, eq_self, beq_self_eq_true, List.drop_succ_cons, List.drop_zero, swT, swL, hset_ap, not_true_eq_false, not_false_eq_true, true_implies, false_implies, implies_true, Int32.reduceLE, Int32.reduceLT, Int32.reduceAdd, Int32.reduceSub, Int32.reduceOfInt, Int32.reduceToNatClampNeg, i10, i01, Nat.add_left_cancel_iff, Nat.left_eq_add, Nat.add_eq_left, cdX11_next, F1, e, m'.o]
        refine D_grows m' h1 h9 (fun h2 c2 a2 op Rm m2 g2 o2 => ?_)
        have gok := grB_ok (fun _ => 0) (fun _ => 0) (fun _ => 0) (seed + nI k) h1 h9
        have r2 := gw_mR (s := pS (wr B' (grB (seed + nI k) j)) (grB (seed + nI k) j).length) okB r' g2
        have eB : (tx1 M B' len').B 1 = B' := by
          show fset M.B 1 B' 1 = B'
          exact fset_s _ _ _
        rw [eB, tx1_tx1] at r2
        have r2 : mR (tx1 M (wr B' (grB (seed + nI k) j)) (grB (seed + nI k) j).length) c2 a2 l' := r2
        have k2 : a2 41 = a' 41 := g2.2.2.2.2.2.2.1 41 (by omega) (by omega) (by omega)
        have okN := tx1_ok ok (B := wr B' (grB (seed + nI k) j)) (len := (grB (seed + nI k) j).length) (by omega)
        have eS : (tx1 M (wr B' (grB (seed + nI k) j)) (grB (seed + nI k) j).length).s 1 = g0 (seed + nI k) j := by
          show fset M.s 1 _ 1 = _
          rw [fset_s]; exact pS_wr _ _
        have eS2 : sM (tx1 M (wr B' (grB (seed + nI k) j)) (grB (seed + nI k) j).length) 1 = g0 (seed + nI k) j := by
          show pS (fset M.B 1 _ 1) (fset M.len 1 _ 1) = _
          rw [fset_s, fset_s]; exact pS_wr _ _
        have hw1 : pwB ((tx1 M (wr B' (grB (seed + nI k) j)) (grB (seed + nI k) j).length).s 1) = true := by rw [eS]; exact pwB_iff.mpr gok.2
        refine go_ok okF1 (C := cdX11_next) (by rfl) [] 40 (by exact Nat.le_of_ble_eq_true rfl) ?_
        simp (maxSteps := 2000000) only [go, stp, inS, ↓reduceIte, Bool.false_eq_true, Nat.reduceLT, Nat.reduceEqDiff, Nat.reduceAdd, ldI, ldL, ldA, st1, st2, okS, List.getElem?_cons_zero, List.getElem?_cons_succ, List.length_cons, List.length_nil, List.set_cons_zero, List.set_cons_succ, callP, callF, popN, ct, Value.category, cI, List.getD_cons_zero, List.getD_cons_succ, and_self, and_true, true_and, Nat.zero_le, Nat.reduceLeDiff, Nat.add_zero, Nat.zero_add, List.nil_append, List.cons_append, Option.toList_some, Option.toList_none, List.append_nil, hset_ss, true_or, or_true, eq_self, beq_self_eq_true, List.drop_succ_cons, List.drop_zero, swT, swL, hset_ap, not_true_eq_false, not_false_eq_true, true_implies, false_implies, implies_true, Int32.reduceLE, Int32.reduceLT, Int32.reduceAdd, Int32.reduceSub, Int32.reduceOfInt, Int32.reduceToNatClampNeg, i10, i01, Nat.add_left_cancel_iff, Nat.left_eq_add, Nat.add_eq_left, cdX11_next, F1, m2.o]
        refine D_without1 m2 r2 okN hw1 (fun h3 c3 a3 l3 m3 k3 k341 o3 => ?_)
        refine go_ok okF1 (C := cdX11_next) (by rfl) [] 40 (by exact Nat.le_of_ble_eq_true rfl) ?_
        simp (maxSteps := 2000000) only [go, stp, inS, ↓reduceIte, Bool.false_eq_true, Nat.reduceLT, Nat.reduceEqDiff, Nat.reduceAdd, ldI, ldL, ldA, st1, st2, okS, List.getElem?_cons_zero, List.getElem?_cons_succ, List.length_cons, List.length_nil, List.set_cons_zero, List.set_cons_succ, callP, callF, popN, ct, Value.category, cI, List.getD_cons_zero, List.getD_cons_succ, and_self, and_true, true_and, Nat.zero_le, Nat.reduceLeDiff, Nat.add_zero, Nat.zero_add, List.nil_append, List.cons_append, Option.toList_some, Option.toList_none, List.append_nil, hset_ss, true_or, or_true, eq_self, beq_self_eq_true, List.drop_succ_cons, List.drop_zero, swT, swL, hset_ap, not_true_eq_false, not_false_eq_true, true_implies, false_implies, implies_true, Int32.reduceLE, Int32.reduceLT, Int32.reduceAdd, Int32.reduceSub, Int32.reduceOfInt, Int32.reduceToNatClampNeg, i10, i01, Nat.add_left_cancel_iff, Nat.left_eq_add, Nat.add_eq_left, cdX11_next, F1, m3.o]
        refine D_firedF m3 k3 (okN.sok (by omega) hw1) okN (fun h4 c4 a4 m4 r4 k441 o4 => ?_)
        rw [eS2, show fiM (tx1 M (wr B' (grB (seed + nI k) j)) (grB (seed + nI k) j).length) (g0 (seed + nI k) j) = fiM M (g0 (seed + nI k) j) from rfl]
        refine go_ok okF1 (C := cdX11_next) (by rfl) [] 40 (by exact Nat.le_of_ble_eq_true rfl) ?_
        simp (maxSteps := 2000000) only [go, stp, inS, ↓reduceIte, Bool.false_eq_true, Nat.reduceLT, Nat.reduceEqDiff, Nat.reduceAdd, ldI, ldL, ldA, st1, st2, okS, List.getElem?_cons_zero, List.getElem?_cons_succ, List.length_cons, List.length_nil, List.set_cons_zero, List.set_cons_succ, callP, callF, popN, ct, Value.category, cI, List.getD_cons_zero, List.getD_cons_succ, and_self, and_true, true_and, Nat.zero_le, Nat.reduceLeDiff, Nat.add_zero, Nat.zero_add, List.nil_append, List.cons_append, Option.toList_some, Option.toList_none, List.append_nil, hset_ss, true_or, or_true, eq_self, beq_self_eq_true, List.drop_succ_cons, List.drop_zero, swT, swL, hset_ap, not_true_eq_false, not_false_eq_true, true_implies, false_implies, implies_true, Int32.reduceLE, Int32.reduceLT, Int32.reduceAdd, Int32.reduceSub, Int32.reduceOfInt, Int32.reduceToNatClampNeg, i10, i01, Nat.add_left_cancel_iff, Nat.left_eq_add, Nat.add_eq_left, cdX11_next, F1, m4.o]
        refine D_newPairs (M := M) m4 (fun b hb => r4.1.pa hb) ?_
        have na := np_any (x := fiM M (g0 (seed + nI k) j)) ok.sy (fiM_8 ok _)
        have pl := prT_le (fun i j_1 => bt (npF M.P (fiM M (g0 (seed + nI k) j)) i) j_1)
        have k4 : ∀ i, i < M.len 1 → a4 41 i = M.B 1 i := fun i hi => by rw [k441, k341, k2]; exact k41 i hi
        have o9 : sOff h h4 52 80 := ((o'.tr o2).tr o3).tr o4
        have hl4 : (grB (seed + nI k) j).length ≤ 40 := by omega
        by_cases hp : nxP M seed j k = true
        · have f1 : ¬ nI (prT (fun i j_1 => bt (npF M.P (fiM M (g0 (seed + nI k) j)) i) j_1)) ≤ 0 := nI_nle (na.mpr hp) (by omega)
          have hf : fstR (nxP M seed j) 30 0 = some k := by rw [hf, fstR_s, if_pos hp]
          rw [hf] at hq
          have nk : ¬ nI k = -1 := nI_m1 (by omega)
          have nx := fun k5 o6 => done h4 c4 a4 l3 _ _ (nI k) k5 o6 m4 r4.1 k4 o9 hq
          by_cases e30 : 30 ≤ nI (k + 1)
          · refine go_ok okF1 (C := cdX11_next) (by rfl) [115] 40 (by exact Nat.le_of_ble_eq_true rfl) ?_
            simp (maxSteps := 2000000) only [go, stp, inS, ↓reduceIte, Bool.false_eq_true, Nat.reduceLT, Nat.reduceEqDiff, Nat.reduceAdd, ldI, ldL, ldA, st1, st2, okS, List.getElem?_cons_zero, List.getElem?_cons_succ, List.length_cons, List.length_nil, List.set_cons_zero, List.set_cons_succ, callP, callF, popN, ct, Value.category, cI, List.getD_cons_zero, List.getD_cons_succ, and_self, and_true, true_and, Nat.zero_le, Nat.reduceLeDiff, Nat.add_zero, Nat.zero_add, List.nil_append, List.cons_append, Option.toList_some, Option.toList_none, List.append_nil, hset_ss, true_or, or_true, eq_self, beq_self_eq_true, List.drop_succ_cons, List.drop_zero, swT, swL, hset_ap, not_true_eq_false, not_false_eq_true, true_implies, false_implies, implies_true, Int32.reduceLE, Int32.reduceLT, Int32.reduceAdd, Int32.reduceSub, Int32.reduceOfInt, Int32.reduceToNatClampNeg, i10, i01, Nat.add_left_cancel_iff, Nat.left_eq_add, Nat.add_eq_left, cdX11_next, F1, f1, nI_1, eq_true e30]
            exact nx _ _
          · refine go_ok okF1 (C := cdX11_next) (by rfl) [115] 40 (by exact Nat.le_of_ble_eq_true rfl) ?_
            simp (maxSteps := 2000000) only [go, stp, inS, ↓reduceIte, Bool.false_eq_true, Nat.reduceLT, Nat.reduceEqDiff, Nat.reduceAdd, ldI, ldL, ldA, st1, st2, okS, List.getElem?_cons_zero, List.getElem?_cons_succ, List.length_cons, List.length_nil, List.set_cons_zero, List.set_cons_succ, callP, callF, popN, ct, Value.category, cI, List.getD_cons_zero, List.getD_cons_succ, and_self, and_true, true_and, Nat.zero_le, Nat.reduceLeDiff, Nat.add_zero, Nat.zero_add, List.nil_append, List.cons_append, Option.toList_some, Option.toList_none, List.append_nil, hset_ss, true_or, or_true, eq_self, beq_self_eq_true, List.drop_succ_cons, List.drop_zero, swT, swL, hset_ap, not_true_eq_false, not_false_eq_true, true_implies, false_implies, implies_true, Int32.reduceLE, Int32.reduceLT, Int32.reduceAdd, Int32.reduceSub, Int32.reduceOfInt, Int32.reduceToNatClampNeg, i10, i01, Nat.add_left_cancel_iff, Nat.left_eq_add, Nat.add_eq_left, cdX11_next, F1, f1, nI_1, e30, nk]
            exact nx _ _
        · have hz : prT (fun i j_1 => bt (npF M.P (fiM M (g0 (seed + nI k) j)) i) j_1) = 0 := by
            rcases Nat.eq_zero_or_pos (prT (fun i j_1 => bt (npF M.P (fiM M (g0 (seed + nI k) j)) i) j_1)) with q | q
            · exact q
            · exact absurd (na.mp q) hp
          rw [hz]
          have hf : fstR (nxP M seed j) 30 0 = fstR (nxP M seed j) w (k + 1) := by rw [hf, fstR_s, if_neg hp]
          refine go_ok okF1 (C := cdX11_next) (by rfl) [56] 40 (by exact Nat.le_of_ble_eq_true rfl) ?_
          simp (maxSteps := 2000000) only [go, stp, inS, ↓reduceIte, Bool.false_eq_true, Nat.reduceLT, Nat.reduceEqDiff, Nat.reduceAdd, ldI, ldL, ldA, st1, st2, okS, List.getElem?_cons_zero, List.getElem?_cons_succ, List.length_cons, List.length_nil, List.set_cons_zero, List.set_cons_succ, callP, callF, popN, ct, Value.category, cI, List.getD_cons_zero, List.getD_cons_succ, and_self, and_true, true_and, Nat.zero_le, Nat.reduceLeDiff, Nat.add_zero, Nat.zero_add, List.nil_append, List.cons_append, Option.toList_some, Option.toList_none, List.append_nil, hset_ss, true_or, or_true, eq_self, beq_self_eq_true, List.drop_succ_cons, List.drop_zero, swT, swL, hset_ap, not_true_eq_false, not_false_eq_true, true_implies, false_implies, implies_true, Int32.reduceLE, Int32.reduceLT, Int32.reduceAdd, Int32.reduceSub, Int32.reduceOfInt, Int32.reduceToNatClampNeg, i10, i01, Nat.add_left_cancel_iff, Nat.left_eq_add, Nat.add_eq_left, cdX11_next, F1, (show nI 0 ≤ 0 by decide), nI_1]
          exact ih (k + 1) h4 c4 a4 l3 _ _ _ (by omega) hl4 m4 r4.1 k4 o9 hf
    have keep : ∀ w k h' a' (o5 o6 : Option Value), k + w = 40 → MH h' c a' l → (∀ i, i ≠ 41 → a' i = a i) → (∀ i, i < k → i < M.len 1 → a' 41 i = M.B 1 i) → sOff h h' 52 80 → A z 227 n 0 0 h' 20 [some (.ref 52), some (.int seed), some (.int (nI j)), some (.int (nI (M.len 1))), some (.int (nI k)), o5, o6] [] Q := by
      intro w
      induction w with
      | zero =>
        intro k h' a' o5 o6 hw m' f' k41 o'
        obtain rfl : k = 40 := by omega
        refine go_ok okF1 (C := cdX11_next) (by rfl) [56] 40 (by exact Nat.le_of_ble_eq_true rfl) ?_
        simp (maxSteps := 2000000) only [go, stp, inS, ↓reduceIte, Bool.false_eq_true, Nat.reduceLT, Nat.reduceEqDiff, Nat.reduceAdd, ldI, ldL, ldA, st1, st2, okS, List.getElem?_cons_zero, List.getElem?_cons_succ, List.length_cons, List.length_nil, List.set_cons_zero, List.set_cons_succ, callP, callF, popN, ct, Value.category, cI, List.getD_cons_zero, List.getD_cons_succ, and_self, and_true, true_and, Nat.zero_le, Nat.reduceLeDiff, Nat.add_zero, Nat.zero_add, List.nil_append, List.cons_append, Option.toList_some, Option.toList_none, List.append_nil, hset_ss, true_or, or_true, eq_self, beq_self_eq_true, List.drop_succ_cons, List.drop_zero, swT, swL, hset_ap, not_true_eq_false, not_false_eq_true, true_implies, false_implies, implies_true, Int32.reduceLE, Int32.reduceLT, Int32.reduceAdd, Int32.reduceSub, Int32.reduceOfInt, Int32.reduceToNatClampNeg, i10, i01, Nat.add_left_cancel_iff, Nat.left_eq_add, Nat.add_eq_left, cdX11_next, F1, (show (40 : Int32) ≤ nI 40 by decide)]
        have eM : mR (tx1 M (M.B 1) (M.len 1)) c a' l := by
          have r9 : mR M c a' l := r.fr rfl rfl rfl rfl (f' 0 (by omega)) (f' 1 (by omega)) (f' 6 (by omega)) (f' 9 (by omega)) (f' 10 (by omega)) (f' 40 (by omega))
          refine ⟨r9.1, r9.2.1, fun t ht => ?_, fun t i ht hi => ?_, r9.2.2.2.2⟩
          · show a' 10 t = nI (fset M.len 1 (M.len 1) t)
            rw [fset_me]; exact r9.ln ht
          · have hi : i < fset M.len 1 (M.len 1) t := hi
            show a' 9 (40 * t + i) = fset M.B 1 (M.B 1) t i
            rw [fset_me] at hi ⊢; exact r9.tx ht hi
        exact seeds 30 0 h' c a' l (M.B 1) (M.len 1) _ (by omega) hl1 m' eM (fun i hi => k41 i (by omega) hi) o' rfl
      | succ w ih =>
        intro k h' a' o5 o6 hw m' f' k41 o'
        have e : ¬ 40 ≤ nI k := by rw [show (40 : Int32) = nI 40 from rfl, i_le (by omega) (by omega)]; omega
        refine go_ok okF1 (C := cdX11_next) (by rfl) [20] 40 (by exact Nat.le_of_ble_eq_true rfl) ?_
        simp (maxSteps := 2000000) only [go, stp, inS, ↓reduceIte, Bool.false_eq_true, Nat.reduceLT, Nat.reduceEqDiff, Nat.reduceAdd, ldI, ldL, ldA, st1, st2, okS, List.getElem?_cons_zero, List.getElem?_cons_succ, List.length_cons, List.length_nil, List.set_cons_zero, List.set_cons_succ, callP, callF, popN, ct, Value.category, cI, List.getD_cons_zero, List.getD_cons_succ, and_self, and_true, true_and, Nat.zero_le, Nat.reduceLeDiff, Nat.add_zero, Nat.zero_add, List.nil_append, List.cons_append, Option.toList_some, Option.toList_none, List.append_nil, hset_ss, true_or, or_true, eq_self, beq_self_eq_true, List.drop_succ_cons, List.drop_zero, swT, swL, hset_ap, not_true_eq_false, not_false_eq_true, true_implies, false_implies, implies_true, Int32.reduceLE, Int32.reduceLT, Int32.reduceAdd, Int32.reduceSub, Int32.reduceOfInt, Int32.reduceToNatClampNeg, i10, i01, Nat.add_left_cancel_iff, Nat.left_eq_add, Nat.add_eq_left, cdX11_next, F1, e, m'.o, m'.a9, m'.a41, i40, i_cl (show 40 + k < 2147483648 by omega), i_cl (show k < 2147483648 by omega), nI_1]
        repeat refine ⟨vp_in_nI (by omega) (by omega), ?_⟩
        refine ih (k + 1) _ _ _ _ (by omega) (m'.s41 (upd (a' 41) k (a' 9 (40 + k)))) (fun i hi => by rw [fset_n _ _ hi]; exact f' i hi) (fun i h1 h2 => ?_) (o'.set (by omega) (by omega))
        show upd (a' 41) k (a' 9 (40 + k)) i = _
        by_cases ei : i = k
        · subst ei
          rw [pk_us, f' 9 (by omega)]
          have := r.tx (t := 1) (by omega) h2
          rw [show 40 * 1 + i = 40 + i by omega] at this
          exact this
        · rw [pk_un ei]; exact k41 i (by omega) h2
    exact keep 40 0 h a _ _ (by omega) m (fun _ _ => rfl) (fun i hi => absurd hi (by omega)) sOff.rf
  · rw [if_neg hr] at hq
    refine go_ok okF1 (C := cdX11_next) (by rfl) [] 40 (by exact Nat.le_of_ble_eq_true rfl) ?_
    simp (maxSteps := 2000000) only [go, stp, inS, ↓reduceIte, Bool.false_eq_true, Nat.reduceLT, Nat.reduceEqDiff, Nat.reduceAdd, ldI, ldL, ldA, st1, st2, okS, List.getElem?_cons_zero, List.getElem?_cons_succ, List.length_cons, List.length_nil, List.set_cons_zero, List.set_cons_succ, callP, callF, popN, ct, Value.category, cI, List.getD_cons_zero, List.getD_cons_succ, and_self, and_true, true_and, Nat.zero_le, Nat.reduceLeDiff, Nat.add_zero, Nat.zero_add, List.nil_append, List.cons_append, Option.toList_some, Option.toList_none, List.append_nil, hset_ss, true_or, or_true, eq_self, beq_self_eq_true, List.drop_succ_cons, List.drop_zero, swT, swL, hset_ap, not_true_eq_false, not_false_eq_true, true_implies, false_implies, implies_true, Int32.reduceLE, Int32.reduceLT, Int32.reduceAdd, Int32.reduceSub, Int32.reduceOfInt, Int32.reduceToNatClampNeg, i10, i01, Nat.add_left_cancel_iff, Nat.left_eq_add, Nat.add_eq_left, cdX11_next, F1, eq_false hr]
    exact hq h m0 sOff.rf
end MZ2
