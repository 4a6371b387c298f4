
/-! WHICH, and laws over some rows -/
def anyB : Nat → (Nat → Bool) → Bool
  | 0, _ => false
  | m + 1, p => anyB m p || p m
theorem anyB_iff {p : Nat → Bool} : ∀ {m : Nat}, anyB m p = true ↔ ∃ i, i < m ∧ p i = true
  | 0 => by simp [anyB]
  | m + 1 => by
    rw [anyB, Bool.or_eq_true, anyB_iff]
    constructor
    · rintro (⟨i, h1, h2⟩ | h)
      · exact ⟨i, by omega, h2⟩
      · exact ⟨m, by omega, h⟩
    · rintro ⟨i, h1, h2⟩
      by_cases h : i = m
      · subst h; exact Or.inr h2
      · exact Or.inl ⟨i, by omega, h2⟩
theorem anyB_ext {p q : Nat → Bool} : ∀ {m : Nat}, (∀ i, i < m → p i = q i) → anyB m p = anyB m q
  | 0, _ => rfl
  | m + 1, h => by rw [anyB, anyB, anyB_ext (fun i hi => h i (by omega)), h m (by omega)]
-- the rows of some ones in which a test is yes
def yB (V : Nat → Nat) (s : Int32) (r : Nat) : Bool := V r == 1 && bt s r
noncomputable def rpB (f : Nat → Int32) (V : Nat → Nat) (s : Int32) (r : Nat) : Bool := anyB r (fun o => yB V s o && sameB f o r)
noncomputable def anB (d7 : Bool) (f : Nat → Int32) (V : Nat → Nat) (s : Int32) (r : Nat) : Bool := yB V s r && !(d7 && rpB f V s r)
set_option maxRecDepth 100000 in
set_option maxHeartbeats 400000 in
theorem E_answer {n : Nat} {h : aH} {Q : aQ} {t tb most : Nat} {al dn fi s : Int32} {W f sE : Nat → Int32} {nr : Nat} {V : Nat → Nat} (hE : EnAt h t tb al dn fi W) (hT : TbAt h tb most f sE nr) (h1 : nr ≤ most) (h2 : most ≤ 12) (hS : SEok f sE nr) (hd1 : t + 3 ≤ tb ∨ tb + 3 ≤ t)
    (hq : ∀ h' fi', EnAt h' t tb al dn fi' W → firS fi fi' 7 (∃ r, r < nr ∧ yB V s r = true ∧ rpB f V s r = true) → sOff h h' t (t + 3) → Q (some (.int (mB nr (anB (bt dn 7) f V s)))) n h') : Ok 16 [.ref t, .int (enc nr V), .int s] n h Q := by
  obtain ⟨hE0, hSd, hW0⟩ := hE
  have hnr : nr ≤ 16 := by omega
  have by' : ∀ i, i < 32 → bt ((enc nr V &&& 65535) &&& s) i = (decide (i < nr) && yB V s i) := fun i hi => by
    rw [b_and, b_yE hnr]; unfold yB
    by_cases hr : i < nr
    · by_cases h1 : V i = 1 <;> simp [hr, h1]
    · simp [hr]
  have hrep : ∀ r, r < nr → (!((sE r &&& ((enc nr V &&& 65535) &&& s)) == 0)) = rpB f V s r := fun r hr => by
    unfold rpB
    rw [hS r hr]
    unfold smE
    have h3 : (¬ (mB r (fun o => sameB f o r) &&& ((enc nr V &&& 65535) &&& s)) = 0) ↔ anyB r (fun o => yB V s o && sameB f o r) = true := by
      rw [b_ne0, anyB_iff]
      constructor
      · rintro ⟨i, hi, hb⟩
        rw [b_and, b_mB _ r (by omega) i hi, by' i hi] at hb
        simp only [Bool.and_eq_true, decide_eq_true_eq] at hb ⊢
        exact ⟨i, hb.1.1, hb.2.2, hb.1.2⟩
      · rintro ⟨i, hi, hb⟩
        simp only [Bool.and_eq_true] at hb
        refine ⟨i, by omega, ?_⟩
        rw [b_and, b_mB _ r (by omega) i (by omega), by' i (by omega)]
        simp [hi, hb.1, hb.2, show i < nr by omega]
    cases hx : anyB r (fun o => yB V s o && sameB f o r) with
    | true => simpa using h3.mpr hx
    | false =>
      have : ¬ ¬ (mB r (fun o => sameB f o r) &&& ((enc nr V &&& 65535) &&& s)) = 0 := fun w => by rw [h3.mp w] at hx; cases hx
      simpa using this
  have hmask : mB nr (fun r => bt ((enc nr V &&& 65535) &&& s) r && !((sE r &&& ((enc nr V &&& 65535) &&& s)) == 0)) = mB nr (fun r => yB V s r && rpB f V s r) := mB_ext fun r hr => by
    rw [by' r (by omega), hrep r hr]; simp [hr]
  refine ok_of kMX1_answer kCX1_answer (Nat.le_of_ble_eq_true rfl) (fun z => ?_)
  change A z _ _ 0 0 _ 0 [some (.ref t), some (.int (enc nr V)), some (.int s), none] [] _
  refine go_ok okF1 (C := cdX1_answer) (by rfl) [] 30 (by exact Nat.le_of_ble_eq_true rfl) ?_
  simp (maxSteps := 2000000) only [go, stp, inS, ↓reduceIte, Bool.false_eq_true, Nat.reduceLT, Nat.reduceEqDiff, Nat.reduceAdd, ldI, ldL, ldA, st1, st2, okS, List.getElem?_cons_zero, List.getElem?_cons_succ, List.length_cons, List.length_nil, List.set_cons_zero, List.set_cons_succ, callP, callF, popN, ct, Value.category, cI, List.getD_cons_zero, List.getD_cons_succ, and_self, and_true, true_and, Nat.zero_le, Nat.reduceLeDiff, Nat.add_zero, Nat.zero_add, List.nil_append, List.cons_append, Option.toList_some, Option.toList_none, List.append_nil, hset_ss, true_or, or_true, eq_self, beq_self_eq_true, List.drop_succ_cons, List.drop_zero, swT, swL, hset_ap, not_true_eq_false, not_false_eq_true, true_implies, false_implies, implies_true, Int32.reduceLE, Int32.reduceLT, Int32.reduceAdd, Int32.reduceSub, Int32.reduceOfInt, Int32.reduceToNatClampNeg, i10, i01, Nat.add_left_cancel_iff, Nat.left_eq_add, Nat.add_eq_left, cdX1_answer, F1, (show h t = _ from hE0), hT.1]
  refine T_repeated hT h1 h2 ?_
  rw [hmask]
  refine go_ok okF1 (C := cdX1_answer) (by rfl) [] 30 (by exact Nat.le_of_ble_eq_true rfl) ?_
  simp (maxSteps := 2000000) only [go, stp, inS, ↓reduceIte, Bool.false_eq_true, Nat.reduceLT, Nat.reduceEqDiff, Nat.reduceAdd, ldI, ldL, ldA, st1, st2, okS, List.getElem?_cons_zero, List.getElem?_cons_succ, List.length_cons, List.length_nil, List.set_cons_zero, List.set_cons_succ, callP, callF, popN, ct, Value.category, cI, List.getD_cons_zero, List.getD_cons_succ, and_self, and_true, true_and, Nat.zero_le, Nat.reduceLeDiff, Nat.add_zero, Nat.zero_add, List.nil_append, List.cons_append, Option.toList_some, Option.toList_none, List.append_nil, hset_ss, true_or, or_true, eq_self, beq_self_eq_true, List.drop_succ_cons, List.drop_zero, swT, swL, hset_ap, not_true_eq_false, not_false_eq_true, true_implies, false_implies, implies_true, Int32.reduceLE, Int32.reduceLT, Int32.reduceAdd, Int32.reduceSub, Int32.reduceOfInt, Int32.reduceToNatClampNeg, i10, i01, Nat.add_left_cancel_iff, Nat.left_eq_add, Nat.add_eq_left, cdX1_answer, F1, (show h t = _ from hE0)]
  refine E_fire (rule := 7) hE0 (by omega) (fun h' fi' hE' hf hO => ?_)
  refine go_ok okF1 (C := cdX1_answer) (by rfl) [] 30 (by exact Nat.le_of_ble_eq_true rfl) ?_
  simp (maxSteps := 2000000) only [go, stp, inS, ↓reduceIte, Bool.false_eq_true, Nat.reduceLT, Nat.reduceEqDiff, Nat.reduceAdd, ldI, ldL, ldA, st1, st2, okS, List.getElem?_cons_zero, List.getElem?_cons_succ, List.length_cons, List.length_nil, List.set_cons_zero, List.set_cons_succ, callP, callF, popN, ct, Value.category, cI, List.getD_cons_zero, List.getD_cons_succ, and_self, and_true, true_and, Nat.zero_le, Nat.reduceLeDiff, Nat.add_zero, Nat.zero_add, List.nil_append, List.cons_append, Option.toList_some, Option.toList_none, List.append_nil, hset_ss, true_or, or_true, eq_self, beq_self_eq_true, List.drop_succ_cons, List.drop_zero, swT, swL, hset_ap, not_true_eq_false, not_false_eq_true, true_implies, false_implies, implies_true, Int32.reduceLE, Int32.reduceLT, Int32.reduceAdd, Int32.reduceSub, Int32.reduceOfInt, Int32.reduceToNatClampNeg, i10, i01, Nat.add_left_cancel_iff, Nat.left_eq_add, Nat.add_eq_left, cdX1_answer, F1]
  have e1 : EnAt h' t tb al dn fi' W := by
    obtain ⟨a, b, c, d, e, hs⟩ := hSd
    exact ⟨hE', ⟨a, b, c, d, e, by unfold SdAt; rw [hO (t + 1) (by omega)]; exact hs⟩, by rw [hO _ (by omega)]; exact hW0⟩
  have := hq h' fi' e1 (fun i hi => ?_) (fun q hq => hO q (by omega))
  · have he : (enc nr V &&& 65535 &&& s) &&& ((if bt dn 7 = true then mB nr (fun r => yB V s r && rpB f V s r) else 0) ^^^ (-1)) = mB nr (anB (bt dn 7) f V s) := by
      refine b_ext fun i hi => ?_
      rw [b_and, by' i hi, b_not _ hi, b_ite, b_0, b_mB _ nr (by omega) i hi, b_mB _ nr (by omega) i hi]
      unfold anB
      by_cases hr : i < nr
      · cases bt dn 7 <;> cases yB V s i <;> cases rpB f V s i <;> simp [hr]
      · simp [hr]
    rw [he]
    exact this
  · rw [hf i hi, mB_nz (P := fun r => yB V s r = true ∧ rpB f V s r = true) hnr (fun i hi => by rw [b_mB _ nr (by omega) i hi]; by_cases hr : i < nr <;> simp [hr])]
