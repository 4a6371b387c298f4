
/-! what a test is in a row -/
def isCo (τ : Int32) : Prop := 20 ≤ τ ∧ τ < 23
def isTo (τ : Int32) : Prop := -9 ≤ τ ∧ τ ≤ 9
noncomputable def coB (τ : Int32) : Bool := decide (20 ≤ τ) && decide (τ < 23)
noncomputable def toB (τ : Int32) : Bool := decide (-9 ≤ τ) && decide (τ ≤ 9)
noncomputable def ltB (x y : Int32) : Bool := decide (x < y)
noncomputable def vC (d : Nat → Bool) (g τ1 τ2 x y : Int32) : Nat :=
  if x = -100 ∨ y = -100 then (if g = 61 ∧ x = -100 ∧ y = -100 ∧ d 1 = true then 1 else 2)
  else if g = 60 then (if x < y then 1 else if x = y ∧ coB τ2 = true ∧ d 4 = true then 1 else 0)
  else if g = 61 then (if x = y then 1 else 0)
  else (if y < x then 1 else if x < y ∧ coB τ1 = true ∧ toB τ2 = true ∧ d 6 = true then 2 else 0)
-- where a rule fires at a compare
def FC (i : Nat) (g τ1 τ2 x y : Int32) : Prop :=
  (i = 1 ∧ g = 61 ∧ x = -100 ∧ y = -100) ∨ (i = 4 ∧ g = 60 ∧ ¬ x = -100 ∧ ¬ y = -100 ∧ x = y ∧ coB τ2 = true) ∨ (i = 6 ∧ g = 62 ∧ ¬ x = -100 ∧ ¬ y = -100 ∧ x < y ∧ coB τ1 = true ∧ toB τ2 = true)
noncomputable def evA (d : Nat → Bool) (G : Nat → Int32) (ac : Nat) (L R f : Nat → Int32) (r : Nat) (v : Nat → Nat) (k : Nat) : Nat :=
  if cmB (G k) = true then vC d (G k) (L k) (R k) (tv f r (L k)) (tv f r (R k))
  else if G k = 33 then vT (d 0) (v (k + 1))
  else if G k = 63 then vQ (cmB (G (k + 1)) && d 5) (v (k + 1))
  else if G k = 38 then vB (d 2) (v (k + 1)) (v (k + 1 + sz G ac (k + 1)))
  else vE (d 3) (v (k + 1)) (v (k + 1 + sz G ac (k + 1)))
def FR (G : Nat → Int32) (ac : Nat) (L R f : Nat → Int32) (r : Nat) (v : Nat → Nat) (k i : Nat) : Prop :=
  (cmB (G k) = true ∧ FC i (G k) (L k) (R k) (tv f r (L k)) (tv f r (R k))) ∨ (i = 0 ∧ G k = 33 ∧ v (k + 1) = 2) ∨ (i = 5 ∧ G k = 63 ∧ cmB (G (k + 1)) = true ∧ v (k + 1) = 2) ∨
  (i = 2 ∧ G k = 38 ∧ ((v (k + 1) = 1 ∧ v (k + 1 + sz G ac (k + 1)) = 2) ∨ (v (k + 1) = 2 ∧ v (k + 1 + sz G ac (k + 1)) = 1))) ∨ (i = 3 ∧ G k = 124 ∧ ((v (k + 1) = 2 ∧ v (k + 1 + sz G ac (k + 1)) = 0) ∨ (v (k + 1) = 0 ∧ v (k + 1 + sz G ac (k + 1)) = 2)))
theorem vC_le (d : Nat → Bool) (g τ1 τ2 x y : Int32) : vC d g τ1 τ2 x y ≤ 2 := by
  unfold vC
  repeat' split
  all_goals omega
noncomputable def evF (d : Nat → Bool) (G : Nat → Int32) (ac : Nat) (L R f : Nat → Int32) (r : Nat) : Nat → Nat → Nat
  | 0, _ => 0
  | m + 1, k => evA d G ac L R f r (evF d G ac L R f r m) k
noncomputable def ev (d : Nat → Bool) (G : Nat → Int32) (ac : Nat) (L R f : Nat → Int32) (r k : Nat) : Nat := evF d G ac L R f r ac k
theorem evA_ext {d : Nat → Bool} {G : Nat → Int32} {ac : Nat} {L R f : Nat → Int32} {r : Nat} {v w : Nat → Nat} {k : Nat} (hW : WFG G ac) (hk : k < ac) (h : ∀ j, k < j → j < ac → v j = w j) : evA d G ac L R f r v k = evA d G ac L R f r w k := by
  unfold evA
  by_cases c1 : cmB (G k) = true
  · rw [if_pos c1, if_pos c1]
  have hn : ¬ isCm (G k) := fun q => c1 (cmB_iff.mpr q)
  have h1 := wf_un hW hk hn
  rw [if_neg c1, if_neg c1, h (k + 1) (by omega) h1]
  by_cases c2 : G k = 33
  · rw [if_pos c2, if_pos c2]
  rw [if_neg c2, if_neg c2]
  by_cases c3 : G k = 63
  · rw [if_pos c3, if_pos c3]
  rw [if_neg c3, if_neg c3]
  have htw : isTw (G k) := by
    rcases (hW.1 k hk).1 with q | q | q
    · exact absurd q hn
    · exact q
    · exact absurd q (fun q => q.elim c2 c3)
  have h2 := (wf_bi hW hk htw).2
  rw [h _ (by omega) h2]
theorem ev_uniq {d : Nat → Bool} {G : Nat → Int32} {ac : Nat} {L R f : Nat → Int32} {r : Nat} {v : Nat → Nat} (hW : WFG G ac) (hv : ∀ k, k < ac → v k = evA d G ac L R f r v k) : ∀ m k, k < ac → ac - k ≤ m → v k = evF d G ac L R f r m k := by
  intro m
  induction m with
  | zero => intro k h1 h2; omega
  | succ m ih =>
    intro k h1 h2
    rw [hv k h1, evF]
    exact evA_ext hW h1 (fun j h3 h4 => ih j h4 (by omega))
theorem ev_rec {d : Nat → Bool} {G : Nat → Int32} {ac : Nat} {L R f : Nat → Int32} {r k : Nat} (hW : WFG G ac) (hk : k < ac) : ev d G ac L R f r k = evA d G ac L R f r (ev d G ac L R f r) k := by
  have st : ∀ q m m' j, j < ac → ac - j ≤ q → q ≤ m → q ≤ m' → evF d G ac L R f r m j = evF d G ac L R f r m' j := by
    intro q
    induction q with
    | zero => intro m m' j h1 h2; omega
    | succ q ih =>
      intro m m' j h1 h2 h3 h4
      obtain ⟨a, rfl⟩ : ∃ a, m = a + 1 := ⟨m - 1, by omega⟩
      obtain ⟨b, rfl⟩ : ∃ b, m' = b + 1 := ⟨m' - 1, by omega⟩
      rw [evF, evF]
      exact evA_ext hW h1 (fun i h5 h6 => ih a b i h6 (by omega) (by omega) (by omega))
  unfold ev
  obtain ⟨a, ha⟩ : ∃ a, ac = a + 1 := ⟨ac - 1, by omega⟩
  have : evF d G ac L R f r ac k = evA d G ac L R f r (evF d G ac L R f r a) k := by
    have h1 : evF d G ac L R f r ac k = evF d G ac L R f r (a + 1) k := by rw [← ha]
    rw [h1, evF]
  rw [this]
  exact evA_ext hW hk (fun j h1 h2 => st (ac - j) a ac j h2 (Nat.le_refl _) (by omega) (by omega))
theorem evA_le {d : Nat → Bool} {G : Nat → Int32} {ac : Nat} {L R f : Nat → Int32} {r : Nat} {v : Nat → Nat} {k : Nat} (h : v (k + 1) ≤ 2) : evA d G ac L R f r v k ≤ 2 := by
  unfold evA
  split
  · exact vC_le _ _ _ _ _ _
  split
  · exact vT_le _ _ h
  split
  · exact vQ_le _ _
  split
  · exact vB_le _ _ _
  · exact vE_le _ _ _
theorem ev_le {d : Nat → Bool} {G : Nat → Int32} {ac : Nat} {L R f : Nat → Int32} {r : Nat} : ∀ m k, evF d G ac L R f r m k ≤ 2
  | 0, _ => Nat.zero_le _
  | m + 1, k => by rw [evF]; exact evA_le (ev_le m _)
/-! the engine with its cells -/
def EnAt (h : aH) (t tb : Nat) (al dn fi : Int32) (W : Nat → Int32) : Prop := EnO h t tb al dn fi ∧ (∃ a b c d e, SdAt h (t + 1) a b c d e) ∧ h (t + 2) = some (.inr (40, .inl W))
set_option maxRecDepth 100000 in
set_option maxHeartbeats 400000 in
theorem E_verdictAt {n : Nat} {h : aH} {Q : aQ} {t tb : Nat} {al dn fi i : Int32} {W : Nat → Int32} (hE : EnAt h t tb al dn fi W) (hq : Q (some (.int (if 0 ≤ i ∧ i < 40 then W i.toNatClampNeg else 0))) n h) : Ok 7 [.ref t, .int i] n h Q := by
  obtain ⟨e0, -, e2⟩ := hE
  unfold EnO at e0
  refine ok_of kMX1_verdictAt kCX1_verdictAt (Nat.le_of_ble_eq_true rfl) (fun z => ?_)
  change A z _ _ 0 0 _ 0 [some (.ref t), some (.int i)] [] _
  refine go_ok okF1 (C := cdX1_verdictAt) (by rfl) [] 30 (by exact Nat.le_of_ble_eq_true rfl) ?_
  simp (maxSteps := 2000000) only [go, stp, inS, ↓reduceIte, Bool.false_eq_true, Nat.reduceLT, Nat.reduceEqDiff, Nat.reduceAdd, ldI, ldL, ldA, st1, st2, okS, List.getElem?_cons_zero, List.getElem?_cons_succ, List.length_cons, List.length_nil, List.set_cons_zero, List.set_cons_succ, callP, callF, popN, ct, Value.category, cI, List.getD_cons_zero, List.getD_cons_succ, and_self, and_true, true_and, Nat.zero_le, Nat.reduceLeDiff, Nat.add_zero, Nat.zero_add, List.nil_append, List.cons_append, Option.toList_some, Option.toList_none, List.append_nil, hset_ss, true_or, or_true, eq_self, beq_self_eq_true, List.drop_succ_cons, List.drop_zero, swT, swL, hset_ap, not_true_eq_false, not_false_eq_true, true_implies, false_implies, implies_true, Int32.reduceLE, Int32.reduceLT, Int32.reduceAdd, Int32.reduceSub, Int32.reduceOfInt, Int32.reduceToNatClampNeg, i10, i01, Nat.add_left_cancel_iff, Nat.left_eq_add, Nat.add_eq_left, cdX1_verdictAt, F1, e0, e2]
  refine ⟨fun c1 => ?_, fun c1 => ⟨fun c3 => ?_, fun c3 => ?_⟩⟩
  · rw [if_neg (fun q => absurd q.1 (i_nle.mpr c1))] at hq; exact hq
  · rw [if_neg (fun q => absurd q.2 (i_nlt.mpr c3))] at hq; exact hq
  · rw [if_pos ⟨i_nlt.mp c1, i_nle.mp c3⟩] at hq
    refine ⟨?_, hq⟩
    obtain ⟨r, hr, rfl⟩ := i_of (n := 40) (by omega) c1 (i_nle.mp c3)
    exact vp_in_nI (by omega) (by omega)
def firQ (fi fi' : Int32) (P : Nat → Prop) : Prop := ∀ i, i < 32 → (bt fi' i = true ↔ (bt fi i = true ∨ P i))
theorem co_iff {τ : Int32} : coB τ = true ↔ (20 ≤ τ ∧ τ < 23) := by simp [coB]
theorem to_iff {τ : Int32} : toB τ = true ↔ (-9 ≤ τ ∧ τ ≤ 9) := by simp [toB]
-- a text that is whole, as its cells have it
def TxW (h : aH) (x : Nat) (G S L R : Nat → Int32) (ac : Nat) : Prop := ∃ B len ot om mi sk, TxAt h x B G S L R len (nI ac) ot om mi sk
def txOk (G S L R : Nat → Int32) (ac : Nat) : Prop := ac ≤ 40 ∧ WFG G ac ∧ (∀ k, k < ac → S k = nI (sz G ac k)) ∧ (∀ k, k < ac → isCm (G k) → tmOk (L k) ∧ tmOk (R k))
theorem TxW.kept {h h' : aH} {x : Nat} {G S L R : Nat → Int32} {ac : Nat} (hT : TxW h x G S L R ac) (hk : ∀ k, x ≤ k → k < x + 6 → h' k = h k) : TxW h' x G S L R ac := by
  obtain ⟨B, len, ot, om, mi, sk, h1⟩ := hT
  exact ⟨B, len, ot, om, mi, sk, h1.kept hk⟩
