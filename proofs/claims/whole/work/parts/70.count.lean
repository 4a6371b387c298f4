
/-! how many bits -/
def b2n (b : Bool) : Nat := if b = true then 1 else 0
def pcN (x : Int32) : Nat → Nat
  | 0 => 0
  | m + 1 => pcN x m + b2n (bt x m)
theorem pcN_le (x : Int32) : ∀ m, pcN x m ≤ m
  | 0 => Nat.le_refl _
  | m + 1 => by have := pcN_le x m; rw [pcN]; unfold b2n; split <;> omega
theorem b_small {x : Int32} {m : Nat} (hm : m ≤ 31) (h : ∀ i, m ≤ i → bt x i = false) : ∃ j, j < 2 ^ m ∧ x = nI j := by
  refine ⟨x.toBitVec.toNat, Nat.lt_pow_two_of_testBit _ (fun i hi => ?_), ?_⟩
  · rw [BitVec.testBit_toNat]; exact h i hi
  · apply Int32.toBitVec_inj.mp
    show x.toBitVec = BitVec.ofNat 32 x.toBitVec.toNat
    rw [BitVec.ofNat_toNat, BitVec.setWidth_eq]
theorem bc12' : ∀ a, a < 64 → ∀ b, b < 64 → bcE (nI (a * 64 + b)) = nI (pcN (nI (a * 64 + b)) 12) := by decide +kernel
theorem bc12 (x : Nat) (h : x < 4096) : bcE (nI x) = nI (pcN (nI x) 12) := by
  have := bc12' (x / 64) (by omega) (x % 64) (by omega)
  rw [show x / 64 * 64 + x % 64 = x by omega] at this
  exact this
theorem bc_12 {x : Int32} (h : ∀ i, 12 ≤ i → bt x i = false) : bcE x = nI (pcN x 12) := by
  obtain ⟨j, hj, rfl⟩ := b_small (m := 12) (by omega) h
  exact bc12 j hj
theorem pcN_more {x : Int32} {m : Nat} (h : ∀ i, m ≤ i → bt x i = false) : ∀ k, pcN x (m + k) = pcN x m
  | 0 => rfl
  | k + 1 => by rw [← Nat.add_assoc, pcN, pcN_more h k, h (m + k) (by omega)]; rfl
theorem bc_8 {x : Int32} (h : ∀ i, 8 ≤ i → bt x i = false) : bcE x = nI (pcN x 8) := by
  rw [bc_12 (fun i hi => h i (by omega)), pcN_more (k := 4) h]
def prT (P : Nat → Nat → Bool) : Nat := b2n (P 0 1) + b2n (P 0 2) + b2n (P 0 3) + b2n (P 0 4) + b2n (P 0 5) + b2n (P 0 6) + b2n (P 0 7) + b2n (P 1 2) + b2n (P 1 3) + b2n (P 1 4) + b2n (P 1 5) + b2n (P 1 6) + b2n (P 1 7) + b2n (P 2 3) + b2n (P 2 4) + b2n (P 2 5) + b2n (P 2 6) + b2n (P 2 7) + b2n (P 3 4) + b2n (P 3 5) + b2n (P 3 6) + b2n (P 3 7) + b2n (P 4 5) + b2n (P 4 6) + b2n (P 4 7) + b2n (P 5 6) + b2n (P 5 7) + b2n (P 6 7)
theorem b2n_le (b : Bool) : b2n b ≤ 1 := by cases b <;> decide
theorem half : ∀ k, k ≤ 64 → nI (2 * k) / 2 = nI k := by decide +kernel
theorem prT_le (P : Nat → Nat → Bool) : prT P ≤ 28 := by
  have q : ∀ a b, b2n (P a b) ≤ 1 := fun a b => b2n_le _
  have := q 0 1; have := q 0 2; have := q 0 3; have := q 0 4; have := q 0 5; have := q 0 6; have := q 0 7; have := q 1 2; have := q 1 3; have := q 1 4; have := q 1 5; have := q 1 6; have := q 1 7; have := q 2 3; have := q 2 4; have := q 2 5; have := q 2 6; have := q 2 7; have := q 3 4; have := q 3 5; have := q 3 6; have := q 3 7; have := q 4 5; have := q 4 6; have := q 4 7; have := q 5 6; have := q 5 7; have := q 6 7
  unfold prT; omega
def syP (P : Nat → Int32) : Prop := (∀ a, a < 8 → ∀ i, 8 ≤ i → bt (P a) i = false) ∧ (∀ a, a < 8 → bt (P a) a = false) ∧ (∀ a b, a < 8 → b < 8 → bt (P a) b = bt (P b) a)
theorem pm_T {P : Nat → Int32} (h : syP P) : smF (fun a => bcE (P a)) 8 / 2 = nI (prT (fun a b => bt (P a) b)) := by
  obtain ⟨h1, h2, h3⟩ := h
  have e : smF (fun a => bcE (P a)) 8 = nI (2 * prT (fun a b => bt (P a) b)) := by
    simp only [smF]
    rw [bc_8 (h1 0 (by omega)), bc_8 (h1 1 (by omega)), bc_8 (h1 2 (by omega)), bc_8 (h1 3 (by omega)), bc_8 (h1 4 (by omega)), bc_8 (h1 5 (by omega)), bc_8 (h1 6 (by omega)), bc_8 (h1 7 (by omega))]
    rw [show (0 : Int32) = nI 0 from rfl]
    simp only [nI_add]
    congr 1
    simp only [pcN, prT, h2 0 (by omega), h2 1 (by omega), h2 2 (by omega), h2 3 (by omega), h2 4 (by omega), h2 5 (by omega), h2 6 (by omega), h2 7 (by omega)]
    rw [h3 1 0 (by omega) (by omega), h3 2 0 (by omega) (by omega), h3 3 0 (by omega) (by omega), h3 4 0 (by omega) (by omega), h3 5 0 (by omega) (by omega), h3 6 0 (by omega) (by omega), h3 7 0 (by omega) (by omega)]
    rw [h3 2 1 (by omega) (by omega), h3 3 1 (by omega) (by omega), h3 4 1 (by omega) (by omega), h3 5 1 (by omega) (by omega), h3 6 1 (by omega) (by omega), h3 7 1 (by omega) (by omega)]
    rw [h3 3 2 (by omega) (by omega), h3 4 2 (by omega) (by omega), h3 5 2 (by omega) (by omega), h3 6 2 (by omega) (by omega), h3 7 2 (by omega) (by omega)]
    rw [h3 4 3 (by omega) (by omega), h3 5 3 (by omega) (by omega), h3 6 3 (by omega) (by omega), h3 7 3 (by omega) (by omega)]
    rw [h3 5 4 (by omega) (by omega), h3 6 4 (by omega) (by omega), h3 7 4 (by omega) (by omega), h3 6 5 (by omega) (by omega), h3 7 5 (by omega) (by omega), h3 7 6 (by omega) (by omega)]
    rw [show b2n false = 0 from rfl]
    omega
  rw [e, half _ (by have := prT_le (fun a b => bt (P a) b); omega)]
-- pairs that are new
theorem b_np {P : Nat → Int32} {x : Int32} {a b : Nat} (ha : a < 8) (hb : b < 32) : bt (npF P x a) b = (bt x a && (bt x b && (!decide (b = a) && !bt (P a) b))) := by
  unfold npF
  rw [b_ite, b_0, b_and, b_and, b_not _ hb, b_not _ hb, b_pw a (by omega) b hb]
  cases bt x a <;> simp [Bool.and_assoc]
theorem np_sy {P : Nat → Int32} {x : Int32} (h : syP P) (hx : ∀ i, 8 ≤ i → bt x i = false) : syP (npF P x) := by
  obtain ⟨h1, h2, h3⟩ := h
  refine ⟨fun a ha i hi => ?_, fun a ha => ?_, fun a b ha hb => ?_⟩
  · rcases Nat.lt_or_ge i 32 with h32 | h32
    · rw [b_np ha h32, hx i hi]; simp
    · exact b_big h32
  · rw [b_np ha (by omega)]; simp
  · rw [b_np ha (by omega), b_np hb (by omega), h3 a b ha hb]
    by_cases hab : b = a
    · subst hab; rfl
    · have : ¬ a = b := fun q => hab q.symm
      simp only [hab, this]
      cases bt x a <;> cases bt x b <;> rfl
theorem ke_bt {P : Nat → Int32} {x : Int32} {a : Nat} (ha : a < 8) (i : Nat) : bt (keF P x a) i = (bt (P a) i || bt (npF P x a) i) := by
  unfold keF; rw [if_pos ha, b_or]
theorem ke_sy {P : Nat → Int32} {x : Int32} (h : syP P) (hx : ∀ i, 8 ≤ i → bt x i = false) : syP (keF P x) := by
  have hn := np_sy h hx
  obtain ⟨h1, h2, h3⟩ := h
  obtain ⟨n1, n2, n3⟩ := hn
  exact ⟨fun a ha i hi => by rw [ke_bt ha, h1 a ha i hi, n1 a ha i hi]; rfl, fun a ha => by rw [ke_bt ha, h2 a ha, n2 a ha]; rfl, fun a b ha hb => by rw [ke_bt ha, ke_bt hb, h3 a b ha hb, n3 a b ha hb]⟩
theorem pm_keep {P : Nat → Int32} {x : Int32} (h : syP P) (hx : ∀ i, 8 ≤ i → bt x i = false) : pmS (keF P x) = pmS P + smF (fun q => bcE (npF P x q)) 8 / 2 := by
  unfold pmS
  rw [pm_T h, pm_T (np_sy h hx), pm_T (ke_sy h hx), nI_add]
  congr 1
  have k : ∀ a b, a < 8 → b < 8 → b2n (bt (keF P x a) b) = b2n (bt (P a) b) + b2n (bt (npF P x a) b) := fun a b ha hb => by
    rw [ke_bt ha, b_np ha (by omega)]
    cases bt x a <;> cases bt x b <;> cases bt (P a) b <;> simp [b2n]
  simp only [prT]
  rw [k 0 1 (by omega) (by omega), k 0 2 (by omega) (by omega), k 0 3 (by omega) (by omega), k 0 4 (by omega) (by omega), k 0 5 (by omega) (by omega), k 0 6 (by omega) (by omega), k 0 7 (by omega) (by omega)]
  rw [k 1 2 (by omega) (by omega), k 1 3 (by omega) (by omega), k 1 4 (by omega) (by omega), k 1 5 (by omega) (by omega), k 1 6 (by omega) (by omega), k 1 7 (by omega) (by omega)]
  rw [k 2 3 (by omega) (by omega), k 2 4 (by omega) (by omega), k 2 5 (by omega) (by omega), k 2 6 (by omega) (by omega), k 2 7 (by omega) (by omega)]
  rw [k 3 4 (by omega) (by omega), k 3 5 (by omega) (by omega), k 3 6 (by omega) (by omega), k 3 7 (by omega) (by omega), k 4 5 (by omega) (by omega), k 4 6 (by omega) (by omega), k 4 7 (by omega) (by omega), k 5 6 (by omega) (by omega), k 5 7 (by omega) (by omega), k 6 7 (by omega) (by omega)]
  omega
-- the lowest bit, as the JDK finds it
def ntzE (x : Int32) : Int32 :=
  let u : Int32 → Int32 → Int32 := fun a b => (a.toUInt32 >>> (b.toUInt32 &&& Int32.toUInt32 31)).toInt32
  let y := (x ^^^ (-1)) &&& (x - 1)
  if ¬ 0 < y then y &&& 32 else
    let p := if y ≤ 65536 then ((1 : Int32), y) else (17, u y 16)
    let q := if p.2 ≤ 256 then p else (p.1 + 8, u p.2 8)
    let r := if q.2 ≤ 16 then q else (q.1 + 4, u q.2 4)
    let w := if r.2 ≤ 4 then r else (r.1 + 2, u r.2 2)
    w.1 + u w.2 1
theorem ntz8 : ∀ x, x < 256 → ntzE (nI x) = match fstR (bt (nI x)) 8 0 with
    | some r => nI r
    | none => 32 := by decide +kernel
set_option maxRecDepth 100000 in
set_option maxHeartbeats 400000 in
theorem T_ntz {n : Nat} {h : aH} {Q : aQ} {x : Int32} (hq : Q (some (.int (ntzE x))) n h) : Ok 241 [.int x] n h Q := by
  refine ok_of kMJ6_numberOfTrailingZeros_0f7a4 kCJ6_numberOfTrailingZeros_0f7a4 (Nat.le_of_ble_eq_true rfl) (fun z => ?_)
  change A z _ _ 0 0 _ 0 [some (.int x), none] [] _
  refine go_ok okF1 (C := cdJ6_numberOfTrailingZeros_0f7a4) (by rfl) [] 60 (by exact Nat.le_of_ble_eq_true rfl) ?_
  simp (maxSteps := 2000000) only [go, stp, inS, ↓reduceIte, Bool.false_eq_true, Nat.reduceLT, Nat.reduceEqDiff, Nat.reduceAdd, ldI, ldL, ldA, st1, st2, okS, List.getElem?_cons_zero, List.getElem?_cons_succ, List.length_cons, List.length_nil, List.set_cons_zero, List.set_cons_succ, callP, callF, popN, ct, Value.category, cI, List.getD_cons_zero, List.getD_cons_succ, and_self, and_true, true_and, Nat.zero_le, Nat.reduceLeDiff, Nat.add_zero, Nat.zero_add, List.nil_append, List.cons_append, Option.toList_some, Option.toList_none, List.append_nil, hset_ss, true_or, or_true, eq_self, beq_self_eq_true, List.drop_succ_cons, List.drop_zero, swT, swL, hset_ap, not_true_eq_false, not_false_eq_true, true_implies, false_implies, implies_true, Int32.reduceLE, Int32.reduceLT, Int32.reduceAdd, Int32.reduceSub, Int32.reduceOfInt, Int32.reduceToNatClampNeg, i10, i01, Nat.add_left_cancel_iff, Nat.left_eq_add, Nat.add_eq_left, cdJ6_numberOfTrailingZeros_0f7a4, F1]
  unfold ntzE at hq
  dsimp only at hq
  refine ⟨fun c1 => ?_, fun c1 => ?_⟩
  · rw [if_neg (Classical.not_not.mpr c1)] at hq
    refine ⟨fun c2 => ?_, fun c2 => ?_⟩
    all_goals first | rw [if_pos c2] at hq | rw [if_neg c2] at hq
    all_goals dsimp only at hq
    all_goals refine ⟨fun c3 => ?_, fun c3 => ?_⟩
    all_goals first | rw [if_pos c3] at hq | rw [if_neg c3] at hq
    all_goals dsimp only at hq
    all_goals refine ⟨fun c4 => ?_, fun c4 => ?_⟩
    all_goals first | rw [if_pos c4] at hq | rw [if_neg c4] at hq
    all_goals dsimp only at hq
    all_goals refine ⟨fun c5 => ?_, fun c5 => ?_⟩
    all_goals first | rw [if_pos c5] at hq | rw [if_neg c5] at hq
    all_goals dsimp only at hq
    all_goals exact hq
  · rw [if_pos c1] at hq
    exact hq
