
/-! the model: reading a text -/
def rdd (c : Nat → Int32) (a : Nat → Nat → Int32) (s : pT) : Prop := c 12 = nI s.1 ∧ rdA a (sG s) (sL s) (sR s) s.1 ∧ ∀ k, k < s.1 → a 18 k = nI (sz (sG s) s.1 k)
theorem ot_s {B : Nat → Int32} {p ac : Nat} {G L R : Nat → Int32} (hs : pS B p = (ac, 0, 0, 0, -1, G, L, R)) : (pS B (p + 1)).2.2.2.2.1 = nI p := by
  rw [pS, hs]
  unfold pstep
  dsimp only
  rw [if_neg (fun q => q rfl), if_neg (by omega), if_pos rfl]
section MT
variable {n : Nat} {h : aH} {Q : aQ} {M : MS} {c : Nat → Int32} {a : Nat → Nat → Int32} {l : Nat → Nat → Int64} {B : Nat → Int32} {len t : Nat}
set_option maxRecDepth 100000 in
set_option maxHeartbeats 400000 in
theorem D_reads (m : MH h c a l) (hT : rdT a t B len) (hq : ∀ h' c' a', MH h' c' a' l → fc1 c c' → fa1 a a' → sOff h h' 52 80 → (pwB (pS B len) = true → rdd c' a' (pS B len)) → Q (some (.int (flt (pS B len) len))) n h') : Ok 175 [.ref 52, .int (nI t)] n h Q := by
  have ht := hT.1
  have hl := hT.2.1
  refine ok_of kMX11_reads kCX11_reads (Nat.le_of_ble_eq_true rfl) (fun z => ?_)
  change A z _ _ 0 0 _ 0 [some (.ref 52), some (.int (nI t)), none, none] [] _
  refine go_ok okF1 (C := cdX11_reads) (by rfl) [12] 60 (by exact Nat.le_of_ble_eq_true rfl) ?_
  simp (maxSteps := 2000000) only [go, stp, inS, ↓reduceIte, Bool.false_eq_true, Nat.reduceLT, Nat.reduceEqDiff, Nat.reduceAdd, ldI, ldL, ldA, st1, st2, okS, List.getElem?_cons_zero, List.getElem?_cons_succ, List.length_cons, List.length_nil, List.set_cons_zero, List.set_cons_succ, callP, callF, popN, ct, Value.category, cI, List.getD_cons_zero, List.getD_cons_succ, and_self, and_true, true_and, Nat.zero_le, Nat.reduceLeDiff, Nat.add_zero, Nat.zero_add, List.nil_append, List.cons_append, Option.toList_some, Option.toList_none, List.append_nil, hset_ss, true_or, or_true, eq_self, beq_self_eq_true, List.drop_succ_cons, List.drop_zero, swT, swL, hset_ap, not_true_eq_false, not_false_eq_true, true_implies, false_implies, implies_true, Int32.reduceLE, Int32.reduceLT, Int32.reduceAdd, Int32.reduceSub, Int32.reduceOfInt, Int32.reduceToNatClampNeg, i10, i01, Nat.add_left_cancel_iff, Nat.left_eq_add, Nat.add_eq_left, cdX11_reads, F1, m.o]
  -- sizes, from the last act on
  have wh : ∀ p ac (G L R : Nat → Int32) (c' : Nat → Int32), p ≤ len → pS B p = (ac, 0, 0, 0, -1, G, L, R) → c' 11 = nI p → c' 12 = nI ac → fc1 c c' → ∀ k, k ≤ ac → ∀ (x w : Int32) (h' : aH) a', x + 1 = nI k → MH h' c' a' l → rdA a' G L R ac → (∀ j, k ≤ j → j < ac → a' 18 j = nI (sz G ac j)) → fa1 a a' → sOff h h' 52 80 → A z 175 n 0 0 h' 77 [some (.ref 52), some (.int (nI t)), some (.int w), some (.int x)] [] Q := by
    intro p ac G L R c' hp hs h11 h12 hfc k
    have hI := pS_I B p
    have hW : WFG G ac := by have := pI_wf hI (by rw [hs]; exact ⟨rfl, rfl, rfl⟩); rw [hs] at this; exact this
    rw [hs] at hI
    have hap : ac ≤ p := hI.1
    induction k with
    | zero =>
      intro _ x w h' a' hx m' hA hz hfa hO
      have hT' := hT.fr hfa
      obtain rfl := x_d0 hx
      by_cases e : p < len
      · have e2 : ¬ nI len ≤ nI p := by rw [i_le (by omega) (by omega)]; omega
        refine go_ok okF1 (C := cdX11_reads) (by rfl) [] 60 (by exact Nat.le_of_ble_eq_true rfl) ?_
        simp (maxSteps := 2000000) only [go, stp, inS, ↓reduceIte, Bool.false_eq_true, Nat.reduceLT, Nat.reduceEqDiff, Nat.reduceAdd, ldI, ldL, ldA, st1, st2, okS, List.getElem?_cons_zero, List.getElem?_cons_succ, List.length_cons, List.length_nil, List.set_cons_zero, List.set_cons_succ, callP, callF, popN, ct, Value.category, cI, List.getD_cons_zero, List.getD_cons_succ, and_self, and_true, true_and, Nat.zero_le, Nat.reduceLeDiff, Nat.add_zero, Nat.zero_add, List.nil_append, List.cons_append, Option.toList_some, Option.toList_none, List.append_nil, hset_ss, true_or, or_true, eq_self, beq_self_eq_true, List.drop_succ_cons, List.drop_zero, swT, swL, hset_ap, not_true_eq_false, not_false_eq_true, true_implies, false_implies, implies_true, Int32.reduceLE, Int32.reduceLT, Int32.reduceAdd, Int32.reduceSub, Int32.reduceOfInt, Int32.reduceToNatClampNeg, i10, i01, Nat.add_left_cancel_iff, Nat.left_eq_add, Nat.add_eq_left, cdX11_reads, F1, (show ((-1 : Int32) < 0) from by decide), m'.o, m'.a10, h11, i_cl (show t < 2147483648 by omega), hT'.2.2.1, e2]
        repeat refine ⟨vp_in_nI (by omega) (by omega), ?_⟩
        obtain ⟨f1, f2, f3⟩ := fl_skip (B := B) hl e (ot_s hs)
        have := hq h' c' a' m' hfc hfa hO (fun q => absurd q f2)
        rw [f1] at this
        exact this
      · obtain rfl : p = len := by omega
        have e2 : nI p ≤ nI p := by rw [i_le (by omega) (by omega)]; omega
        refine go_ok okF1 (C := cdX11_reads) (by rfl) [] 60 (by exact Nat.le_of_ble_eq_true rfl) ?_
        simp (maxSteps := 2000000) only [go, stp, inS, ↓reduceIte, Bool.false_eq_true, Nat.reduceLT, Nat.reduceEqDiff, Nat.reduceAdd, ldI, ldL, ldA, st1, st2, okS, List.getElem?_cons_zero, List.getElem?_cons_succ, List.length_cons, List.length_nil, List.set_cons_zero, List.set_cons_succ, callP, callF, popN, ct, Value.category, cI, List.getD_cons_zero, List.getD_cons_succ, and_self, and_true, true_and, Nat.zero_le, Nat.reduceLeDiff, Nat.add_zero, Nat.zero_add, List.nil_append, List.cons_append, Option.toList_some, Option.toList_none, List.append_nil, hset_ss, true_or, or_true, eq_self, beq_self_eq_true, List.drop_succ_cons, List.drop_zero, swT, swL, hset_ap, not_true_eq_false, not_false_eq_true, true_implies, false_implies, implies_true, Int32.reduceLE, Int32.reduceLT, Int32.reduceAdd, Int32.reduceSub, Int32.reduceOfInt, Int32.reduceToNatClampNeg, i10, i01, Nat.add_left_cancel_iff, Nat.left_eq_add, Nat.add_eq_left, cdX11_reads, F1, (show ((-1 : Int32) < 0) from by decide), m'.o, m'.a10, h11, i_cl (show t < 2147483648 by omega), hT'.2.2.1, e2]
        repeat refine ⟨vp_in_nI (by omega) (by omega), ?_⟩
        have f1 : flt (pS B p) p = -1 := by rw [hs]; unfold flt; rw [if_neg (fun q => q rfl), if_pos ⟨rfl, rfl⟩]
        have := hq h' c' a' m' hfc hfa hO (fun _ => by rw [hs]; exact ⟨h12, hA, fun j hj => hz j (by omega) hj⟩)
        rw [f1] at this
        exact this
    | succ k ih =>
      intro hk x w h' a' hx m' hA hz hfa hO
      obtain rfl := x_dn hx
      have hk' : k < ac := by omega
      obtain ⟨a13, -⟩ := hA k hk'
      have c0 : ¬ nI k < 0 := i_nn (by omega)
      have nx : ∀ g : Nat → Int32, (∀ j, k ≤ j → j < ac → g j = nI (sz G ac j)) → ∀ h2, MH h2 c' (fset a' 18 g) l → sOff h h2 52 80 → A z 175 n 0 0 h2 77 [some (.ref 52), some (.int (nI t)), some (.int w), some (.int (nI k + (-1)))] [] Q := fun g hg h2 m2 hO2 =>
        ih (by omega) _ w h2 _ (x_m1 _) m2 hA hg (hfa.st _ (by omega) (by omega)) hO2
      rcases (hW.1 k hk').1 with hc | hc | hc
      · have nt : ¬ (G k = 38 ∨ G k = 124) := cm_ntw hc
        have e1 : (G k = 60 ∨ G k = 61 ∨ G k = 62) = True := eq_true hc
        refine go_ok okF1 (C := cdX11_reads) (by rfl) [77] 60 (by exact Nat.le_of_ble_eq_true rfl) ?_
        simp (maxSteps := 2000000) only [go, stp, inS, ↓reduceIte, Bool.false_eq_true, Nat.reduceLT, Nat.reduceEqDiff, Nat.reduceAdd, ldI, ldL, ldA, st1, st2, okS, List.getElem?_cons_zero, List.getElem?_cons_succ, List.length_cons, List.length_nil, List.set_cons_zero, List.set_cons_succ, callP, callF, popN, ct, Value.category, cI, List.getD_cons_zero, List.getD_cons_succ, and_self, and_true, true_and, Nat.zero_le, Nat.reduceLeDiff, Nat.add_zero, Nat.zero_add, List.nil_append, List.cons_append, Option.toList_some, Option.toList_none, List.append_nil, hset_ss, true_or, or_true, eq_self, beq_self_eq_true, List.drop_succ_cons, List.drop_zero, swT, swL, hset_ap, not_true_eq_false, not_false_eq_true, true_implies, false_implies, implies_true, Int32.reduceLE, Int32.reduceLT, Int32.reduceAdd, Int32.reduceSub, Int32.reduceOfInt, Int32.reduceToNatClampNeg, i10, i01, Nat.add_left_cancel_iff, Nat.left_eq_add, Nat.add_eq_left, cdX11_reads, F1, c0, m'.o, m'.a13, m'.a18, i_cl (show k < 2147483648 by omega), a13, e1, eq_false nt]
        repeat refine ⟨vp_in_nI (by omega) (by omega), ?_⟩
        refine nx (upd (a' 18) k 1) (fun j j1 j2 => ?_) _ (m'.s18 _) (hO.set (by omega) (by omega))
        by_cases e : j = k
        · subst e; rw [pk_us, sz_cm hk' hc]; rfl
        · rw [pk_un e]; exact hz j (by omega) j2
      · have nc : ¬ (G k = 60 ∨ G k = 61 ∨ G k = 62) := tw_ncm hc
        have e1 : (G k = 38 ∨ G k = 124) = True := eq_true hc
        obtain ⟨b1, b2⟩ := wf_bi hW hk' hc
        have hz1 := sz_wf hW _ (k + 1) (Nat.le_refl _) b1
        have z1 := hz (k + 1) (by omega) b1
        have z2 := hz (k + 1 + sz G ac (k + 1)) (by omega) b2
        have q1 : (1 : Int32) + nI (sz G ac (k + 1)) = nI (1 + sz G ac (k + 1)) := nI_add 1 _
        have q2 : nI k + nI (1 + sz G ac (k + 1)) = nI (k + 1 + sz G ac (k + 1)) := by rw [nI_add]; congr 1; omega
        have u1 : upd (a' 18) k 1 (k + 1) = nI (sz G ac (k + 1)) := by rw [pk_un (by omega)]; exact z1
        have u2 : upd (upd (a' 18) k 1) k (nI (1 + sz G ac (k + 1))) (k + 1 + sz G ac (k + 1)) = nI (sz G ac (k + 1 + sz G ac (k + 1))) := by rw [pk_un (by omega), pk_un (by omega)]; exact z2
        refine go_ok okF1 (C := cdX11_reads) (by rfl) [77] 80 (by exact Nat.le_of_ble_eq_true rfl) ?_
        simp (maxSteps := 2000000) only [go, stp, inS, ↓reduceIte, Bool.false_eq_true, Nat.reduceLT, Nat.reduceEqDiff, Nat.reduceAdd, ldI, ldL, ldA, st1, st2, okS, List.getElem?_cons_zero, List.getElem?_cons_succ, List.length_cons, List.length_nil, List.set_cons_zero, List.set_cons_succ, callP, callF, popN, ct, Value.category, cI, List.getD_cons_zero, List.getD_cons_succ, and_self, and_true, true_and, Nat.zero_le, Nat.reduceLeDiff, Nat.add_zero, Nat.zero_add, List.nil_append, List.cons_append, Option.toList_some, Option.toList_none, List.append_nil, hset_ss, true_or, or_true, eq_self, beq_self_eq_true, List.drop_succ_cons, List.drop_zero, swT, swL, hset_ap, not_true_eq_false, not_false_eq_true, true_implies, false_implies, implies_true, Int32.reduceLE, Int32.reduceLT, Int32.reduceAdd, Int32.reduceSub, Int32.reduceOfInt, Int32.reduceToNatClampNeg, i10, i01, Nat.add_left_cancel_iff, Nat.left_eq_add, Nat.add_eq_left, cdX11_reads, F1, c0, m'.o, m'.a13, m'.a18, i_cl (show k < 2147483648 by omega), nI_1, i_cl (show k + 1 < 2147483648 by omega), a13, e1, eq_false nc, pk_us, u1, q1, q2, i_cl (show k + 1 + sz G ac (k + 1) < 2147483648 by omega), u2, nI_add]
        repeat refine ⟨vp_in_nI (by omega) (by omega), ?_⟩
        refine nx _ (fun j j1 j2 => ?_) _ (m'.s18 _) (hO.set (by omega) (by omega))
        by_cases e : j = k
        · subst e; rw [pk_us, sz_tw hk' hc]
        · rw [pk_un e, pk_un e, pk_un e]; exact hz j (by omega) j2
      · have nc : ¬ (G k = 60 ∨ G k = 61 ∨ G k = 62) := on_ncm hc
        have nt : ¬ (G k = 38 ∨ G k = 124) := on_ntw hc
        have b1 := wf_un hW hk' (on_ncm hc)
        have z1 := hz (k + 1) (by omega) b1
        have q1 : (1 : Int32) + nI (sz G ac (k + 1)) = nI (1 + sz G ac (k + 1)) := nI_add 1 _
        have u1 : upd (a' 18) k 1 (k + 1) = nI (sz G ac (k + 1)) := by rw [pk_un (by omega)]; exact z1
        refine go_ok okF1 (C := cdX11_reads) (by rfl) [77] 80 (by exact Nat.le_of_ble_eq_true rfl) ?_
        simp (maxSteps := 2000000) only [go, stp, inS, ↓reduceIte, Bool.false_eq_true, Nat.reduceLT, Nat.reduceEqDiff, Nat.reduceAdd, ldI, ldL, ldA, st1, st2, okS, List.getElem?_cons_zero, List.getElem?_cons_succ, List.length_cons, List.length_nil, List.set_cons_zero, List.set_cons_succ, callP, callF, popN, ct, Value.category, cI, List.getD_cons_zero, List.getD_cons_succ, and_self, and_true, true_and, Nat.zero_le, Nat.reduceLeDiff, Nat.add_zero, Nat.zero_add, List.nil_append, List.cons_append, Option.toList_some, Option.toList_none, List.append_nil, hset_ss, true_or, or_true, eq_self, beq_self_eq_true, List.drop_succ_cons, List.drop_zero, swT, swL, hset_ap, not_true_eq_false, not_false_eq_true, true_implies, false_implies, implies_true, Int32.reduceLE, Int32.reduceLT, Int32.reduceAdd, Int32.reduceSub, Int32.reduceOfInt, Int32.reduceToNatClampNeg, i10, i01, Nat.add_left_cancel_iff, Nat.left_eq_add, Nat.add_eq_left, cdX11_reads, F1, c0, m'.o, m'.a13, m'.a18, i_cl (show k < 2147483648 by omega), nI_1, i_cl (show k + 1 < 2147483648 by omega), a13, eq_false nt, eq_false nc, pk_us, u1, q1]
        repeat refine ⟨vp_in_nI (by omega) (by omega), ?_⟩
        refine nx _ (fun j j1 j2 => ?_) _ (m'.s18 _) (hO.set (by omega) (by omega))
        by_cases e : j = k
        · subst e; rw [pk_us, sz_on hk' hc]
        · rw [pk_un e, pk_un e]; exact hz j (by omega) j2
  have loop : ∀ q p ac ot (G L R : Nat → Int32) (h' : aH) c' a' g, len - p < q → p ≤ len → pS B p = (ac, ot, 0, 0, -1, G, L, R) → MH h' c' a' l → c' 11 = nI p → c' 12 = nI ac → rdA a' G L R ac → fc1 c c' → fa1 a a' → sOff h h' 52 80 → A z 175 n 0 0 h' 12 [some (.ref 52), some (.int (nI t)), some (.int (nI ot)), g] [] Q := by
    intro q
    induction q with
    | zero => intro p ac ot G L R h' c' a' g h1; omega
    | succ q ih =>
      intro p ac ot G L R h' c' a' g h1 hp hs m' h11 h12 hA hfc hfa hO
      have hI := pS_I B p
      rw [hs] at hI
      have hap : ac ≤ p := hI.1
      have hot : ot ≤ p + 1 := hI.2.1
      by_cases e : ot = 0
      · subst e
        refine go_ok okF1 (C := cdX11_reads) (by rfl) [77] 60 (by exact Nat.le_of_ble_eq_true rfl) ?_
        simp (maxSteps := 2000000) only [go, stp, inS, ↓reduceIte, Bool.false_eq_true, Nat.reduceLT, Nat.reduceEqDiff, Nat.reduceAdd, ldI, ldL, ldA, st1, st2, okS, List.getElem?_cons_zero, List.getElem?_cons_succ, List.length_cons, List.length_nil, List.set_cons_zero, List.set_cons_succ, callP, callF, popN, ct, Value.category, cI, List.getD_cons_zero, List.getD_cons_succ, and_self, and_true, true_and, Nat.zero_le, Nat.reduceLeDiff, Nat.add_zero, Nat.zero_add, List.nil_append, List.cons_append, Option.toList_some, Option.toList_none, List.append_nil, hset_ss, true_or, or_true, eq_self, beq_self_eq_true, List.drop_succ_cons, List.drop_zero, swT, swL, hset_ap, not_true_eq_false, not_false_eq_true, true_implies, false_implies, implies_true, Int32.reduceLE, Int32.reduceLT, Int32.reduceAdd, Int32.reduceSub, Int32.reduceOfInt, Int32.reduceToNatClampNeg, i10, i01, Nat.add_left_cancel_iff, Nat.left_eq_add, Nat.add_eq_left, cdX11_reads, F1, (show nI 0 ≤ 0 from by decide), m'.o, h12]
        exact wh p ac G L R c' hp hs h11 h12 hfc ac (Nat.le_refl _) _ _ h' a' (x_s1 _) m' hA (fun j h1 h2 => absurd h2 (by omega)) hfa hO
      · have e0 : ¬ nI ot ≤ 0 := nI_nle (by omega) (by omega)
        refine go_ok okF1 (C := cdX11_reads) (by rfl) [] 60 (by exact Nat.le_of_ble_eq_true rfl) ?_
        simp (maxSteps := 2000000) only [go, stp, inS, ↓reduceIte, Bool.false_eq_true, Nat.reduceLT, Nat.reduceEqDiff, Nat.reduceAdd, ldI, ldL, ldA, st1, st2, okS, List.getElem?_cons_zero, List.getElem?_cons_succ, List.length_cons, List.length_nil, List.set_cons_zero, List.set_cons_succ, callP, callF, popN, ct, Value.category, cI, List.getD_cons_zero, List.getD_cons_succ, and_self, and_true, true_and, Nat.zero_le, Nat.reduceLeDiff, Nat.add_zero, Nat.zero_add, List.nil_append, List.cons_append, Option.toList_some, Option.toList_none, List.append_nil, hset_ss, true_or, or_true, eq_self, beq_self_eq_true, List.drop_succ_cons, List.drop_zero, swT, swL, hset_ap, not_true_eq_false, not_false_eq_true, true_implies, false_implies, implies_true, Int32.reduceLE, Int32.reduceLT, Int32.reduceAdd, Int32.reduceSub, Int32.reduceOfInt, Int32.reduceToNatClampNeg, i10, i01, Nat.add_left_cancel_iff, Nat.left_eq_add, Nat.add_eq_left, cdX11_reads, F1, e0, m'.o]
        refine D_act m' (hT.fr hfa) h11 h12 hp hs (by omega) hA (fun p' g' L' R' q1 q2 st h2 c2 a2 m2 hA2 k12 k11 kc ka kO => ?_) (fun p' fl h2 c2 a2 m2 k11 kc ka kO => ?_)
        · have hsg := (hA2 ac (by omega)).1
          rw [pk_us] at hsg
          have hI2 := pS_I B p'
          rw [st] at hI2
          have hap2 : ac + 1 ≤ p' := hI2.1
          have nx := fun (v : Int32) (hv : v = nI (otN g' ot)) => (show A z 175 n 0 0 h2 12 [some (.ref 52), some (.int (nI t)), some (.int v), some (.int g')] [] Q from by
            rw [hv]; exact ih p' (ac + 1) _ _ L' R' h2 c2 a2 _ (by omega) q2 st m2 k11 k12 hA2 (hfc.tr kc) (hfa.tr ka) (hO.tr kO))
          by_cases b1 : g' = 38 ∨ g' = 124
          · refine go_ok okF1 (C := cdX11_reads) (by rfl) [12] 60 (by exact Nat.le_of_ble_eq_true rfl) ?_
            simp (maxSteps := 2000000) only [go, stp, inS, ↓reduceIte, Bool.false_eq_true, Nat.reduceLT, Nat.reduceEqDiff, Nat.reduceAdd, ldI, ldL, ldA, st1, st2, okS, List.getElem?_cons_zero, List.getElem?_cons_succ, List.length_cons, List.length_nil, List.set_cons_zero, List.set_cons_succ, callP, callF, popN, ct, Value.category, cI, List.getD_cons_zero, List.getD_cons_succ, and_self, and_true, true_and, Nat.zero_le, Nat.reduceLeDiff, Nat.add_zero, Nat.zero_add, List.nil_append, List.cons_append, Option.toList_some, Option.toList_none, List.append_nil, hset_ss, true_or, or_true, eq_self, beq_self_eq_true, List.drop_succ_cons, List.drop_zero, swT, swL, hset_ap, not_true_eq_false, not_false_eq_true, true_implies, false_implies, implies_true, Int32.reduceLE, Int32.reduceLT, Int32.reduceAdd, Int32.reduceSub, Int32.reduceOfInt, Int32.reduceToNatClampNeg, i10, i01, Nat.add_left_cancel_iff, Nat.left_eq_add, Nat.add_eq_left, cdX11_reads, F1, m2.o, m2.a13, k12, nI_pred, i_cl (show ac < 2147483648 by omega), hsg, eq_true b1]
            repeat refine ⟨vp_in_nI (by omega) (by omega), ?_⟩
            exact nx _ (by unfold otN; rw [if_pos (twB_iff.mpr b1), nI_1])
          · by_cases b2 : g' = 60 ∨ g' = 61 ∨ g' = 62
            · refine go_ok okF1 (C := cdX11_reads) (by rfl) [12] 60 (by exact Nat.le_of_ble_eq_true rfl) ?_
              simp (maxSteps := 2000000) only [go, stp, inS, ↓reduceIte, Bool.false_eq_true, Nat.reduceLT, Nat.reduceEqDiff, Nat.reduceAdd, ldI, ldL, ldA, st1, st2, okS, List.getElem?_cons_zero, List.getElem?_cons_succ, List.length_cons, List.length_nil, List.set_cons_zero, List.set_cons_succ, callP, callF, popN, ct, Value.category, cI, List.getD_cons_zero, List.getD_cons_succ, and_self, and_true, true_and, Nat.zero_le, Nat.reduceLeDiff, Nat.add_zero, Nat.zero_add, List.nil_append, List.cons_append, Option.toList_some, Option.toList_none, List.append_nil, hset_ss, true_or, or_true, eq_self, beq_self_eq_true, List.drop_succ_cons, List.drop_zero, swT, swL, hset_ap, not_true_eq_false, not_false_eq_true, true_implies, false_implies, implies_true, Int32.reduceLE, Int32.reduceLT, Int32.reduceAdd, Int32.reduceSub, Int32.reduceOfInt, Int32.reduceToNatClampNeg, i10, i01, Nat.add_left_cancel_iff, Nat.left_eq_add, Nat.add_eq_left, cdX11_reads, F1, m2.o, m2.a13, k12, nI_pred, i_cl (show ac < 2147483648 by omega), hsg, eq_false b1, eq_true b2]
              repeat refine ⟨vp_in_nI (by omega) (by omega), ?_⟩
              refine nx _ (by unfold otN; rw [if_neg (fun q => b1 (twB_iff.mp q)), if_pos (cmB_iff.mpr b2)]; obtain ⟨k, rfl⟩ : ∃ k, ot = k + 1 := ⟨ot - 1, by omega⟩; exact pk_m1 k)
            · refine go_ok okF1 (C := cdX11_reads) (by rfl) [12] 60 (by exact Nat.le_of_ble_eq_true rfl) ?_
              simp (maxSteps := 2000000) only [go, stp, inS, ↓reduceIte, Bool.false_eq_true, Nat.reduceLT, Nat.reduceEqDiff, Nat.reduceAdd, ldI, ldL, ldA, st1, st2, okS, List.getElem?_cons_zero, List.getElem?_cons_succ, List.length_cons, List.length_nil, List.set_cons_zero, List.set_cons_succ, callP, callF, popN, ct, Value.category, cI, List.getD_cons_zero, List.getD_cons_succ, and_self, and_true, true_and, Nat.zero_le, Nat.reduceLeDiff, Nat.add_zero, Nat.zero_add, List.nil_append, List.cons_append, Option.toList_some, Option.toList_none, List.append_nil, hset_ss, true_or, or_true, eq_self, beq_self_eq_true, List.drop_succ_cons, List.drop_zero, swT, swL, hset_ap, not_true_eq_false, not_false_eq_true, true_implies, false_implies, implies_true, Int32.reduceLE, Int32.reduceLT, Int32.reduceAdd, Int32.reduceSub, Int32.reduceOfInt, Int32.reduceToNatClampNeg, i10, i01, Nat.add_left_cancel_iff, Nat.left_eq_add, Nat.add_eq_left, cdX11_reads, F1, m2.o, m2.a13, k12, nI_pred, i_cl (show ac < 2147483648 by omega), hsg, eq_false b1, eq_false b2, Int32.add_zero]
              repeat refine ⟨vp_in_nI (by omega) (by omega), ?_⟩
              exact nx _ (by unfold otN; rw [if_neg (fun q => b1 (twB_iff.mp q)), if_neg (fun q => b2 (cmB_iff.mp q))])
        · refine go_ok okF1 (C := cdX11_reads) (by rfl) [] 60 (by exact Nat.le_of_ble_eq_true rfl) ?_
          simp (maxSteps := 2000000) only [go, stp, inS, ↓reduceIte, Bool.false_eq_true, Nat.reduceLT, Nat.reduceEqDiff, Nat.reduceAdd, ldI, ldL, ldA, st1, st2, okS, List.getElem?_cons_zero, List.getElem?_cons_succ, List.length_cons, List.length_nil, List.set_cons_zero, List.set_cons_succ, callP, callF, popN, ct, Value.category, cI, List.getD_cons_zero, List.getD_cons_succ, and_self, and_true, true_and, Nat.zero_le, Nat.reduceLeDiff, Nat.add_zero, Nat.zero_add, List.nil_append, List.cons_append, Option.toList_some, Option.toList_none, List.append_nil, hset_ss, true_or, or_true, eq_self, beq_self_eq_true, List.drop_succ_cons, List.drop_zero, swT, swL, hset_ap, not_true_eq_false, not_false_eq_true, true_implies, false_implies, implies_true, Int32.reduceLE, Int32.reduceLT, Int32.reduceAdd, Int32.reduceSub, Int32.reduceOfInt, Int32.reduceToNatClampNeg, i10, i01, Nat.add_left_cancel_iff, Nat.left_eq_add, Nat.add_eq_left, cdX11_reads, F1, m2.o, k11]
          have := hq h2 c2 a2 m2 (hfc.tr kc) (hfa.tr ka) (hO.tr kO) (fun q => absurd q fl.2.1)
          rw [fl.1] at this
          exact this
  exact loop (len + 1) 0 0 1 _ _ _ _ (upd (upd c 11 0) 12 0) a _ (by omega) (by omega) rfl (m.sc (upd (upd c 11 0) 12 0)) rfl rfl (fun k hk => absurd hk (by omega)) (fun i i1 i2 i3 i4 => by rw [pk_un i2, pk_un i1]) (fa1.rf a) (sOff.rf.set (by omega) (by omega))
end MT
