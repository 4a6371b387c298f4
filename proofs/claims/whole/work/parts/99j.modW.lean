
/-! the model: led -/
def nxt (H off : Nat) : Nat := (off + 4294967296 - H) &&& H
def chk (H : Nat) : Bool := (List.range 256).all fun off => !(off &&& H == off) || ((nxt H off == 0 || decide (off < nxt H off)) && (List.range ((if nxt H off = 0 then 256 else nxt H off) - off - 1)).all fun i => !((off + 1 + i) &&& H == off + 1 + i))
theorem chk_all : (List.range 256).all chk = true := by decide +kernel
theorem nxt_ok {H off : Nat} (hH : H < 256) (ho : off < 256) (hs : off &&& H = off) : (nxt H off = 0 ∨ off < nxt H off) ∧ ∀ y, off < y → y < (if nxt H off = 0 then 256 else nxt H off) → ¬ y &&& H = y := by
  have h1 := List.all_eq_true.mp chk_all H (List.mem_range.mpr hH)
  unfold chk at h1
  have h2 := List.all_eq_true.mp h1 off (List.mem_range.mpr ho)
  rw [hs] at h2
  simp only [beq_self_eq_true, Bool.not_true, Bool.false_or, Bool.and_eq_true, Bool.or_eq_true, beq_iff_eq, decide_eq_true_eq] at h2
  refine ⟨h2.1, fun y y1 y2 => ?_⟩
  have h3 := List.all_eq_true.mp h2.2 (y - off - 1) (List.mem_range.mpr (by omega))
  rw [show off + 1 + (y - off - 1) = y by omega] at h3
  simpa using h3
theorem nxt_i {H off : Nat} (hH : H < 256) : (nI off - nI H) &&& nI H = nI (nxt H off) := by
  have e : nI off - nI H = nI (off + 4294967296 - H) := by
    have e1 : nI (off + 4294967296 - H) + nI H = nI off := by
      rw [nI_add, show off + 4294967296 - H + H = off + 4294967296 by omega]
      apply Int32.toBitVec_inj.mp
      show BitVec.ofNat 32 (off + 4294967296) = BitVec.ofNat 32 off
      apply BitVec.eq_of_toNat_eq
      rw [BitVec.toNat_ofNat, BitVec.toNat_ofNat]; omega
    rw [← e1, Int32.add_sub_cancel]
  rw [e, nI_and]; rfl
theorem pc_sub {x y : Int32} : ∀ m, (∀ i, i < m → bt x i = true → bt y i = true) → pcN x m ≤ pcN y m ∧ (pcN x m = pcN y m → ∀ i, i < m → bt x i = bt y i)
  | 0, _ => ⟨Nat.le_refl _, fun _ i hi => absurd hi (by omega)⟩
  | m + 1, h => by
    obtain ⟨h1, h2⟩ := pc_sub m (fun i hi => h i (by omega))
    have hm := h m (by omega)
    rw [pcN, pcN]
    cases hx : bt x m with
    | true =>
      rw [hm hx]
      exact ⟨by omega, fun e i hi => if ei : i = m then (by rw [ei, hx, hm hx]) else h2 (by omega) i (by omega)⟩
    | false =>
      cases hy : bt y m with
      | true => rw [show b2n true = 1 from rfl, show b2n false = 0 from rfl]; exact ⟨by omega, fun e => by omega⟩
      | false => exact ⟨by omega, fun e i hi => if ei : i = m then (by rw [ei, hx, hy]) else h2 (by omega) i (by omega)⟩
abbrev pc8 (x : Nat) : Nat := pcN (nI x) 8
section MW2
variable {n : Nat} {h : aH} {Q : aQ} {M : MS} {c : Nat → Int32} {a : Nat → Nat → Int32} {l : Nat → Nat → Int64} {law : Nat} {s : pT}
noncomputable def gdB (M : MS) (s : pT) (law x : Nat) : Bool := !bkS s M.f M.nr law ((M.ru &&& (nI x ^^^ (-1))) &&& M.fa) 0 (alm M.nr)
-- the best of all below a bound
def bsI (gd : Nat → Bool) (H : Nat) (best : Int32) (X : Nat) : Prop := (best = -1 ∧ ∀ y, y < X → y &&& H = y → gd y = false) ∨ (∃ b, b < X ∧ b < 256 ∧ best = nI b ∧ b &&& H = b ∧ gd b = true ∧ ∀ y, y < X → y &&& H = y → gd y = true → pc8 b < pc8 y ∨ (pc8 b = pc8 y ∧ b ≤ y))
theorem bsI.skip {gd : Nat → Bool} {H X Y : Nat} {best : Int32} (h : bsI gd H best X) (hXY : X ≤ Y) (hn : ∀ y, X ≤ y → y < Y → ¬ y &&& H = y) : bsI gd H best Y := by
  rcases h with ⟨h1, h2⟩ | ⟨b, h1, h2, h3, h4, h5, h6⟩
  · exact Or.inl ⟨h1, fun y hy hs => by
      rcases Nat.lt_or_ge y X with q | q
      · exact h2 y q hs
      · exact absurd hs (hn y q hy)⟩
  · exact Or.inr ⟨b, by omega, h2, h3, h4, h5, fun y hy hs hg => by
      rcases Nat.lt_or_ge y X with q | q
      · exact h6 y q hs hg
      · exact absurd hs (hn y q hy)⟩
theorem ruM_ok (ok : MOk M) {r : Int32} (hr : ∀ i, 8 ≤ i → bt r i = false) : MOk (ruM M r M.fa) := ⟨ok.nr, ok.cv, ok.ln, ok.pi, ok.pr, hr, ok.fa, ok.p8, ok.pn, ok.ps, ok.sz, ok.fm, ok.it⟩
theorem bt_sub {x y : Nat} : x &&& y = x ↔ ∀ i, x.testBit i = true → y.testBit i = true := by
  constructor
  · intro e i hi
    have := congrArg (fun z => z.testBit i) e
    rw [Nat.testBit_and, hi] at this
    simpa using this
  · intro e
    apply Nat.eq_of_testBit_eq
    intro i
    rw [Nat.testBit_and]
    cases hx : x.testBit i with
    | true => rw [e i hx]; rfl
    | false => rfl
-- the best of all is the first of those that are looked at by their size
theorem led_eq {best : Int32} {H : Nat} (hH : H < 256) (hru : M.ru = nI H) (ok : MOk M) (hB : bsI (gdB M s law) H best 256) : best = ledF M s law := by
  have hfa := ok.fa
  obtain ⟨F, hF, eF⟩ := b_small (m := 8) (by omega) hfa
  have edn : M.ru &&& M.fa = nI (H &&& F) := by rw [hru, eF, nI_and]
  have gde : ∀ x, gdB M s law x = !bkM M s law ((M.ru &&& M.fa) &&& (nI x ^^^ (-1))) 0 (alm M.nr) := fun x => by
    unfold gdB
    rw [bkM_eq]
    congr 2
    exact b_ext fun i hi => by rw [b_and, b_and, b_and, b_and]; cases bt M.ru i <;> cases bt M.fa i <;> cases bt (nI x ^^^ -1) i <;> rfl
  have sub : ∀ x, x < 256 → (((nI x &&& ((M.ru &&& M.fa) ^^^ (-1))) == 0) = true ↔ x &&& (H &&& F) = x) := fun x hx => by
    rw [beq_iff_eq, b_zero, bt_sub]
    constructor
    · intro e i hi
      rcases Nat.lt_or_ge i 32 with h32 | h32
      · have := e i h32
        rw [b_and, b_not _ h32, edn, bt_nI _ h32, bt_nI _ h32, hi] at this
        simpa using this
      · have : x.testBit i = false := Nat.testBit_lt_two_pow (Nat.lt_of_lt_of_le (show x < 2 ^ 8 by omega) (Nat.pow_le_pow_right (by omega) (by omega)))
        rw [this] at hi; cases hi
    · intro e i hi
      rw [b_and, b_not _ hi, edn, bt_nI _ hi, bt_nI _ hi]
      cases hx2 : x.testBit i with
      | false => rfl
      | true => rw [e i hx2]; rfl
  have ledP_iff : ∀ k y, y < 256 → (ledP M s law (k * 256 + y) = true ↔ (k < 2147483648 → pc8 y = k) ∧ bcE (nI y) = nI k ∧ y &&& (H &&& F) = y ∧ gdB M s law y = true) := fun k y hy => by
    unfold ledP
    rw [show (k * 256 + y) % 256 = y by omega, show (k * 256 + y) / 256 = k by omega, Bool.and_eq_true, Bool.and_eq_true, sub y hy, beq_iff_eq, gde]
    refine ⟨fun w => ⟨fun hk => ?_, w⟩, fun w => w.2⟩
    have e := w.1
    have hp := pcN_le (nI y) 8
    rw [bc12 y (by omega), i_eq (by have := pcN_le (nI y) 12; omega) hk] at e
    rw [← e]
    exact (pcN_more (x := nI y) (m := 8) (fun i hi => by
      rcases Nat.lt_or_ge i 32 with h32 | h32
      · rw [bt_nI _ h32]; exact Nat.testBit_lt_two_pow (Nat.lt_of_lt_of_le (show y < 2 ^ 8 by omega) (Nat.pow_le_pow_right (by omega) hi))
      · exact b_big h32) 4).symm
  unfold ledF
  rcases hB with ⟨h1, h2⟩ | ⟨b, -, h2, h3, h4, h5, h6⟩
  · have : fstR (ledP M s law) 2304 0 = none := fstR_no.mpr (fun j _ hj => by
      refine Bool.eq_false_iff.mpr (fun w => ?_)
      have e : j = j / 256 * 256 + j % 256 := by omega
      rw [e] at w
      obtain ⟨-, -, w3, w4⟩ := (ledP_iff (j / 256) (j % 256) (by omega)).mp w
      rw [h2 (j % 256) (by omega) (by rw [bt_sub] at w3 ⊢; intro i hi; have := w3 i hi; rw [Nat.testBit_and, Bool.and_eq_true] at this; exact this.1)] at w4
      cases w4)
    rw [this, h1]
  · -- it lies in what is put in
    have g' : gdB M s law (b &&& (H &&& F)) = true := by
      rw [gde] at h5 ⊢
      have e : (M.ru &&& M.fa) &&& (nI (b &&& (H &&& F)) ^^^ (-1)) = (M.ru &&& M.fa) &&& (nI b ^^^ (-1)) := b_ext fun i hi => by
        rw [edn, b_and, b_and, b_not _ hi, b_not _ hi, bt_nI _ hi, bt_nI _ hi, bt_nI _ hi]
        simp only [Nat.testBit_and]
        cases b.testBit i <;> cases H.testBit i <;> cases F.testBit i <;> rfl
      rw [e]; exact h5
    have lt' : b &&& (H &&& F) < 256 := Nat.lt_of_le_of_lt Nat.and_le_left h2
    have sH : (b &&& (H &&& F)) &&& H = b &&& (H &&& F) := bt_sub.mpr (fun i hi => by
      rw [Nat.testBit_and, Bool.and_eq_true, Nat.testBit_and, Bool.and_eq_true] at hi; exact hi.2.1)
    have pp := pc_sub (x := nI (b &&& (H &&& F))) (y := nI b) 8 (fun i hi hb => by
      rw [bt_nI _ (by omega), Nat.testBit_and, Bool.and_eq_true] at hb
      rw [bt_nI _ (by omega)]; exact hb.1)
    have hbD : b &&& (H &&& F) = b := by
      rcases h6 _ lt' sH g' with q | q
      · exact absurd pp.1 (by unfold pc8 at q; omega)
      · have := pp.2 q.1.symm
        apply Nat.eq_of_testBit_eq
        intro i
        rcases Nat.lt_or_ge i 8 with h8 | h8
        · have := this i h8
          rw [bt_nI _ (by omega), bt_nI _ (by omega)] at this
          exact this
        · rw [Nat.testBit_lt_two_pow (Nat.lt_of_lt_of_le lt' (Nat.pow_le_pow_right (n := 2) (i := 8) (by omega) h8)), Nat.testBit_lt_two_pow (Nat.lt_of_lt_of_le h2 (Nat.pow_le_pow_right (n := 2) (i := 8) (by omega) h8))]
    have p8 : pc8 b ≤ 8 := pcN_le _ _
    have bcb : bcE (nI b) = nI (pc8 b) := bc_8 (fun i hi => by
      rcases Nat.lt_or_ge i 32 with h32 | h32
      · rw [bt_nI _ h32]; exact Nat.testBit_lt_two_pow (Nat.lt_of_lt_of_le (show b < 2 ^ 8 by omega) (Nat.pow_le_pow_right (by omega) hi))
      · exact b_big h32)
    have : fstR (ledP M s law) 2304 0 = some (pc8 b * 256 + b) := fstR_of (by omega) (by omega) ((ledP_iff (pc8 b) b h2).mpr ⟨fun _ => rfl, bcb, hbD, h5⟩) (fun j _ hj => by
      refine Bool.eq_false_iff.mpr (fun w => ?_)
      have e : j = j / 256 * 256 + j % 256 := by omega
      rw [e] at w
      obtain ⟨w1, -, w3, w4⟩ := (ledP_iff (j / 256) (j % 256) (by omega)).mp w
      have w1 := w1 (by omega)
      have := h6 (j % 256) (by omega) (by rw [bt_sub] at w3 ⊢; intro i hi; have := w3 i hi; rw [Nat.testBit_and, Bool.and_eq_true] at this; exact this.1) w4
      rw [w1] at this
      omega)
    rw [this, h3]
    dsimp only
    rw [show (pc8 b * 256 + b) % 256 = b by omega]
theorem ledF_t (ok : MOk M) (hw : pwB (M.s 0) = true) : ledF M (sM M 0) law = ledF M (M.s 0) law := by
  have e : ledP M (sM M 0) law = ledP M (M.s 0) law := by
    funext q
    unfold ledP
    rw [show bkM M (sM M 0) law ((M.ru &&& M.fa) &&& (nI (q % 256) ^^^ (-1))) 0 (alm M.nr) = bkM M (M.s 0) law ((M.ru &&& M.fa) &&& (nI (q % 256) ^^^ (-1))) 0 (alm M.nr) from bkM_t ok (by omega) hw (ok.pz0 (by omega) hw)]
  unfold ledF
  rw [e]
set_option maxRecDepth 100000 in
set_option maxHeartbeats 400000 in
theorem D_led {l0 : Int32} (m : MI h M) (ok : MOk M) (hq : ∀ h', MI h' M → sOff h h' 52 80 → Q (some (.int (stLed M l0))) n h') : Ok 215 [.ref 52, .int l0] n h Q := by
  unfold stLed at hq
  have hnr := ok.nr
  have m0 := m
  obtain ⟨c, a, l, m, r⟩ := m
  refine ok_of kMX11_led kCX11_led (Nat.le_of_ble_eq_true rfl) (fun z => ?_)
  change A z _ _ 0 0 _ 0 [some (.ref 52), some (.int l0), none, none, none, none] [] _
  by_cases hl : 0 ≤ l0 ∧ l0 < 7
  · rw [if_pos hl] at hq
    obtain ⟨law, hlaw, rfl⟩ := i_of (n := 7) (by omega) (i_nlt.mpr hl.1) hl.2
    rw [i_cl (show law < 2147483648 by omega)] at hq
    refine go_ok okF1 (C := cdX11_led) (by rfl) [] 40 (by exact Nat.le_of_ble_eq_true rfl) ?_
    simp (maxSteps := 2000000) only [go, stp, inS, ↓reduceIte, Bool.false_eq_true, Nat.reduceLT, Nat.reduceEqDiff, Nat.reduceAdd, ldI, ldL, ldA, st1, st2, okS, List.getElem?_cons_zero, List.getElem?_cons_succ, List.length_cons, List.length_nil, List.set_cons_zero, List.set_cons_succ, callP, callF, popN, ct, Value.category, cI, List.getD_cons_zero, List.getD_cons_succ, and_self, and_true, true_and, Nat.zero_le, Nat.reduceLeDiff, Nat.add_zero, Nat.zero_add, List.nil_append, List.cons_append, Option.toList_some, Option.toList_none, List.append_nil, hset_ss, true_or, or_true, eq_self, beq_self_eq_true, List.drop_succ_cons, List.drop_zero, swT, swL, hset_ap, not_true_eq_false, not_false_eq_true, true_implies, false_implies, implies_true, Int32.reduceLE, Int32.reduceLT, Int32.reduceAdd, Int32.reduceSub, Int32.reduceOfInt, Int32.reduceToNatClampNeg, i10, i01, Nat.add_left_cancel_iff, Nat.left_eq_add, Nat.add_eq_left, cdX11_led, F1, eq_true hl, m.o]
    refine D_readsM (t := 0) m0 ok (by omega) (fun hw hf h' m' o => ?_) (fun hw h1 c1 a1 l1 m1 r1 hs h12 o1 => ?_)
    · refine go_ok okF1 (C := cdX11_led) (by rfl) [] 40 (by exact Nat.le_of_ble_eq_true rfl) ?_
      simp (maxSteps := 2000000) only [go, stp, inS, ↓reduceIte, Bool.false_eq_true, Nat.reduceLT, Nat.reduceEqDiff, Nat.reduceAdd, ldI, ldL, ldA, st1, st2, okS, List.getElem?_cons_zero, List.getElem?_cons_succ, List.length_cons, List.length_nil, List.set_cons_zero, List.set_cons_succ, callP, callF, popN, ct, Value.category, cI, List.getD_cons_zero, List.getD_cons_succ, and_self, and_true, true_and, Nat.zero_le, Nat.reduceLeDiff, Nat.add_zero, Nat.zero_add, List.nil_append, List.cons_append, Option.toList_some, Option.toList_none, List.append_nil, hset_ss, true_or, or_true, eq_self, beq_self_eq_true, List.drop_succ_cons, List.drop_zero, swT, swL, hset_ap, not_true_eq_false, not_false_eq_true, true_implies, false_implies, implies_true, Int32.reduceLE, Int32.reduceLT, Int32.reduceAdd, Int32.reduceSub, Int32.reduceOfInt, Int32.reduceToNatClampNeg, i10, i01, Nat.add_left_cancel_iff, Nat.left_eq_add, Nat.add_eq_left, cdX11_led, F1, hf]
      rw [if_neg hw] at hq
      exact hq h' m' o
    · rw [if_pos hw] at hq
      have hk := ok.sok (t := 0) (by omega) hw
      have p1 : (sM M 0).1 = (M.s 0).1 := (pR_eq (len := M.len 0) (ok.pr 0 (by omega))).1
      have rd : rdy M (sM M 0) c1 a1 (kL l1 c1) := ⟨r1.kl c1, hs, by rw [h12, p1], rfl, rfl⟩
      obtain ⟨H, hH, eH⟩ := b_small (m := 8) (by omega) ok.ru
      rw [← ledF_t ok hw] at hq
      refine go_ok okF1 (C := cdX11_led) (by rfl) [35] 40 (by exact Nat.le_of_ble_eq_true rfl) ?_
      simp (maxSteps := 2000000) only [go, stp, inS, ↓reduceIte, Bool.false_eq_true, Nat.reduceLT, Nat.reduceEqDiff, Nat.reduceAdd, ldI, ldL, ldA, st1, st2, okS, List.getElem?_cons_zero, List.getElem?_cons_succ, List.length_cons, List.length_nil, List.set_cons_zero, List.set_cons_succ, callP, callF, popN, ct, Value.category, cI, List.getD_cons_zero, List.getD_cons_succ, and_self, and_true, true_and, Nat.zero_le, Nat.reduceLeDiff, Nat.add_zero, Nat.zero_add, List.nil_append, List.cons_append, Option.toList_some, Option.toList_none, List.append_nil, hset_ss, true_or, or_true, eq_self, beq_self_eq_true, List.drop_succ_cons, List.drop_zero, swT, swL, hset_ap, not_true_eq_false, not_false_eq_true, true_implies, false_implies, implies_true, Int32.reduceLE, Int32.reduceLT, Int32.reduceAdd, Int32.reduceSub, Int32.reduceOfInt, Int32.reduceToNatClampNeg, i10, i01, Nat.add_left_cancel_iff, Nat.left_eq_add, Nat.add_eq_left, cdX11_led, F1, m1.o, r1.ru]
      -- with some rules off
      have ro : ∀ (c2 : Nat → Int32) a2 l2 (v : Int32), rdy (ruM M (c2 28) M.fa) (sM M 0) c2 a2 l2 → rdy (ruM M v M.fa) (sM M 0) (upd c2 28 v) a2 l2 := fun c2 a2 l2 v ⟨q1, q2, q3⟩ => ⟨⟨⟨q1.1.1, q1.1.2.1, rfl, q1.1.2.2.2⟩, q1.2⟩, q2, q3⟩
      have a8 : ∀ i, M.nr ≤ i → bt (alm M.nr) i = false := fun i hi => by
        rcases Nat.lt_or_ge i 32 with h32 | h32
        · rw [b_alm (by omega) h32]; simp; omega
        · exact b_big h32
      have last : ∀ h2 c2 a2 l2 (best l4 : Int32), MH h2 c2 a2 l2 → rdy (ruM M (c2 28) M.fa) (sM M 0) c2 a2 l2 → bsI (gdB M (sM M 0) law) H best 256 → sOff h h2 52 80 → A z 215 n 0 0 h2 35 [some (.ref 52), some (.int (nI law)), some (.int M.ru), some (.int best), some (.int l4), some (.int 0)] [] Q := by
        intro h2 c2 a2 l2 best l4 m2 r2 hB o2
        refine go_ok okF1 (C := cdX11_led) (by rfl) [] 40 (by exact Nat.le_of_ble_eq_true rfl) ?_
        simp (maxSteps := 2000000) only [go, stp, inS, ↓reduceIte, Bool.false_eq_true, Nat.reduceLT, Nat.reduceEqDiff, Nat.reduceAdd, ldI, ldL, ldA, st1, st2, okS, List.getElem?_cons_zero, List.getElem?_cons_succ, List.length_cons, List.length_nil, List.set_cons_zero, List.set_cons_succ, callP, callF, popN, ct, Value.category, cI, List.getD_cons_zero, List.getD_cons_succ, and_self, and_true, true_and, Nat.zero_le, Nat.reduceLeDiff, Nat.add_zero, Nat.zero_add, List.nil_append, List.cons_append, Option.toList_some, Option.toList_none, List.append_nil, hset_ss, true_or, or_true, eq_self, beq_self_eq_true, List.drop_succ_cons, List.drop_zero, swT, swL, hset_ap, not_true_eq_false, not_false_eq_true, true_implies, false_implies, implies_true, Int32.reduceLE, Int32.reduceLT, Int32.reduceAdd, Int32.reduceSub, Int32.reduceOfInt, Int32.reduceToNatClampNeg, i10, i01, Nat.add_left_cancel_iff, Nat.left_eq_add, Nat.add_eq_left, cdX11_led, F1, m2.o]
        rw [led_eq hH eH ok hB]
        have r3 := ro c2 a2 l2 M.ru r2
        exact hq _ ⟨_, _, _, m2.sc (upd c2 28 M.ru), r3.1⟩ (o2.set (by omega) (by omega))
      have loop : ∀ w off h2 c2 a2 l2 (best : Int32), 256 - off ≤ w → off < 256 → off &&& H = off → MH h2 c2 a2 l2 → rdy (ruM M (c2 28) M.fa) (sM M 0) c2 a2 l2 → bsI (gdB M (sM M 0) law) H best off → sOff h h2 52 80 → A z 215 n 0 0 h2 35 [some (.ref 52), some (.int (nI law)), some (.int M.ru), some (.int best), some (.int (nI off)), some (.int 1)] [] Q := by
        intro w
        induction w with
        | zero => intro off h2 c2 a2 l2 best hw2 ho; omega
        | succ w ih =>
          intro off h2 c2 a2 l2 best hw2 ho hs2 m2 r2 hB o2
          have r3 := ro c2 a2 l2 (M.ru &&& (nI off ^^^ (-1))) r2
          have m3 := m2.sc (upd c2 28 (M.ru &&& (nI off ^^^ (-1))))
          have o3 : sOff h (hset h2 52 (oM (upd c2 28 (M.ru &&& (nI off ^^^ (-1)))))) 52 80 := o2.set (by omega) (by omega)
          have ok3 : MOk (ruM M (M.ru &&& (nI off ^^^ (-1))) M.fa) := ruM_ok ok (fun i hi => by rw [b_and, ok.ru i hi]; rfl)
          obtain ⟨nx1, nx2⟩ := nxt_ok hH ho hs2
          -- on to the next
          have cont : ∀ h4 c4 a4 (best' : Int32), MH h4 c4 a4 l2 → rdy (ruM M (c4 28) M.fa) (sM M 0) c4 a4 l2 → bsI (gdB M (sM M 0) law) H best' (off + 1) → sOff h h4 52 80 → A z 215 n 0 0 h4 83 [some (.ref 52), some (.int (nI law)), some (.int M.ru), some (.int best'), some (.int (nI off)), some (.int 1)] [] Q := by
            intro h4 c4 a4 best' m4 r4 hB4 o4
            by_cases e : nxt H off = 0
            · rw [if_pos e] at nx2
              refine go_ok okF1 (C := cdX11_led) (by rfl) [35] 40 (by exact Nat.le_of_ble_eq_true rfl) ?_
              simp (maxSteps := 2000000) only [go, stp, inS, ↓reduceIte, Bool.false_eq_true, Nat.reduceLT, Nat.reduceEqDiff, Nat.reduceAdd, ldI, ldL, ldA, st1, st2, okS, List.getElem?_cons_zero, List.getElem?_cons_succ, List.length_cons, List.length_nil, List.set_cons_zero, List.set_cons_succ, callP, callF, popN, ct, Value.category, cI, List.getD_cons_zero, List.getD_cons_succ, and_self, and_true, true_and, Nat.zero_le, Nat.reduceLeDiff, Nat.add_zero, Nat.zero_add, List.nil_append, List.cons_append, Option.toList_some, Option.toList_none, List.append_nil, hset_ss, true_or, or_true, eq_self, beq_self_eq_true, List.drop_succ_cons, List.drop_zero, swT, swL, hset_ap, not_true_eq_false, not_false_eq_true, true_implies, false_implies, implies_true, Int32.reduceLE, Int32.reduceLT, Int32.reduceAdd, Int32.reduceSub, Int32.reduceOfInt, Int32.reduceToNatClampNeg, i10, i01, Nat.add_left_cancel_iff, Nat.left_eq_add, Nat.add_eq_left, cdX11_led, F1, eH, nxt_i hH, e, (show nI 0 = 0 from rfl)]
              rw [← eH]
              exact last h4 c4 a4 l2 best' _ m4 r4 (hB4.skip (by omega) (fun y h1 h2 => nx2 y (by omega) h2)) o4
            · rw [if_neg e] at nx2
              have hlt : nxt H off < 256 := Nat.lt_of_le_of_lt Nat.and_le_right hH
              have en : ¬ nI (nxt H off) = 0 := nI_ne0 (by omega) (by omega)
              have ol : off < nxt H off := nx1.resolve_left e
              refine go_ok okF1 (C := cdX11_led) (by rfl) [35] 40 (by exact Nat.le_of_ble_eq_true rfl) ?_
              simp (maxSteps := 2000000) only [go, stp, inS, ↓reduceIte, Bool.false_eq_true, Nat.reduceLT, Nat.reduceEqDiff, Nat.reduceAdd, ldI, ldL, ldA, st1, st2, okS, List.getElem?_cons_zero, List.getElem?_cons_succ, List.length_cons, List.length_nil, List.set_cons_zero, List.set_cons_succ, callP, callF, popN, ct, Value.category, cI, List.getD_cons_zero, List.getD_cons_succ, and_self, and_true, true_and, Nat.zero_le, Nat.reduceLeDiff, Nat.add_zero, Nat.zero_add, List.nil_append, List.cons_append, Option.toList_some, Option.toList_none, List.append_nil, hset_ss, true_or, or_true, eq_self, beq_self_eq_true, List.drop_succ_cons, List.drop_zero, swT, swL, hset_ap, not_true_eq_false, not_false_eq_true, true_implies, false_implies, implies_true, Int32.reduceLE, Int32.reduceLT, Int32.reduceAdd, Int32.reduceSub, Int32.reduceOfInt, Int32.reduceToNatClampNeg, i10, i01, Nat.add_left_cancel_iff, Nat.left_eq_add, Nat.add_eq_left, cdX11_led, F1, eH, nxt_i hH, en]
              rw [← eH]
              exact ih (nxt H off) h4 c4 a4 l2 best' (by omega) hlt (bt_sub.mpr (fun i hi => by unfold nxt at hi; rw [Nat.testBit_and, Bool.and_eq_true] at hi; exact hi.2)) m4 r4 (hB4.skip (by omega) (fun y h1 h2 => nx2 y (by omega) h2)) o4
          -- it is asked
          have ask : (best = -1 ∨ ∃ b, best = nI b ∧ b < 256 ∧ pc8 off < pc8 b) → A z 215 n 0 0 (hset h2 52 (oM (upd c2 28 (M.ru &&& (nI off ^^^ (-1)))))) 67 [some (.ref 52), some (.int (nI law)), some (.int M.ru), some (.int best), some (.int (nI off)), some (.int 1)] [] Q := by
            intro hbetter
            generalize hset h2 52 (oM (upd c2 28 (M.ru &&& (nI off ^^^ (-1))))) = h3 at m3 o3 ⊢
            refine go_ok okF1 (C := cdX11_led) (by rfl) [] 40 (by exact Nat.le_of_ble_eq_true rfl) ?_
            simp (maxSteps := 2000000) only [go, stp, inS, ↓reduceIte, Bool.false_eq_true, Nat.reduceLT, Nat.reduceEqDiff, Nat.reduceAdd, ldI, ldL, ldA, st1, st2, okS, List.getElem?_cons_zero, List.getElem?_cons_succ, List.length_cons, List.length_nil, List.set_cons_zero, List.set_cons_succ, callP, callF, popN, ct, Value.category, cI, List.getD_cons_zero, List.getD_cons_succ, and_self, and_true, true_and, Nat.zero_le, Nat.reduceLeDiff, Nat.add_zero, Nat.zero_add, List.nil_append, List.cons_append, Option.toList_some, Option.toList_none, List.append_nil, hset_ss, true_or, or_true, eq_self, beq_self_eq_true, List.drop_succ_cons, List.drop_zero, swT, swL, hset_ap, not_true_eq_false, not_false_eq_true, true_implies, false_implies, implies_true, Int32.reduceLE, Int32.reduceLT, Int32.reduceAdd, Int32.reduceSub, Int32.reduceOfInt, Int32.reduceToNatClampNeg, i10, i01, Nat.add_left_cancel_iff, Nat.left_eq_add, Nat.add_eq_left, cdX11_led, F1, m3.o]
            refine D_allRows m3 r3.1.nr ?_
            refine go_ok okF1 (C := cdX11_led) (by rfl) [] 40 (by exact Nat.le_of_ble_eq_true rfl) ?_
            simp (maxSteps := 2000000) only [go, stp, inS, ↓reduceIte, Bool.false_eq_true, Nat.reduceLT, Nat.reduceEqDiff, Nat.reduceAdd, ldI, ldL, ldA, st1, st2, okS, List.getElem?_cons_zero, List.getElem?_cons_succ, List.length_cons, List.length_nil, List.set_cons_zero, List.set_cons_succ, callP, callF, popN, ct, Value.category, cI, List.getD_cons_zero, List.getD_cons_succ, and_self, and_true, true_and, Nat.zero_le, Nat.reduceLeDiff, Nat.add_zero, Nat.zero_add, List.nil_append, List.cons_append, Option.toList_some, Option.toList_none, List.append_nil, hset_ss, true_or, or_true, eq_self, beq_self_eq_true, List.drop_succ_cons, List.drop_zero, swT, swL, hset_ap, not_true_eq_false, not_false_eq_true, true_implies, false_implies, implies_true, Int32.reduceLE, Int32.reduceLT, Int32.reduceAdd, Int32.reduceSub, Int32.reduceOfInt, Int32.reduceToNatClampNeg, i10, i01, Nat.add_left_cancel_iff, Nat.left_eq_add, Nat.add_eq_left, cdX11_led, F1, m3.o]
            refine D_qBy (o := 0) m3 r3 ok3 hk hk.1 hlaw a8 (fun h4 c4 a4 m4 r4 o4 => ?_)
            have c28 : c4 28 = M.ru &&& (nI off ^^^ (-1)) := r4.1.ru
            have r4' : rdy (ruM M (c4 28) M.fa) (sM M 0) c4 a4 l2 := by rw [c28]; exact r4
            change A z 215 n 0 0 h4 77 _ (some (Value.int (if bkS (sM M 0) M.f M.nr law ((M.ru &&& (nI off ^^^ (-1))) &&& M.fa) 0 (alm M.nr) = true then 1 else 0))).toList Q
            have hg : gdB M (sM M 0) law off = !bkS (sM M 0) M.f M.nr law ((M.ru &&& (nI off ^^^ (-1))) &&& M.fa) 0 (alm M.nr) := rfl
            by_cases hb : bkS (sM M 0) M.f M.nr law ((M.ru &&& (nI off ^^^ (-1))) &&& M.fa) 0 (alm M.nr) = true
            · rw [if_pos hb]
              rw [hb] at hg
              refine go_ok okF1 (C := cdX11_led) (by rfl) [83] 40 (by exact Nat.le_of_ble_eq_true rfl) ?_
              simp (maxSteps := 2000000) only [go, stp, inS, ↓reduceIte, Bool.false_eq_true, Nat.reduceLT, Nat.reduceEqDiff, Nat.reduceAdd, ldI, ldL, ldA, st1, st2, okS, List.getElem?_cons_zero, List.getElem?_cons_succ, List.length_cons, List.length_nil, List.set_cons_zero, List.set_cons_succ, callP, callF, popN, ct, Value.category, cI, List.getD_cons_zero, List.getD_cons_succ, and_self, and_true, true_and, Nat.zero_le, Nat.reduceLeDiff, Nat.add_zero, Nat.zero_add, List.nil_append, List.cons_append, Option.toList_some, Option.toList_none, List.append_nil, hset_ss, true_or, or_true, eq_self, beq_self_eq_true, List.drop_succ_cons, List.drop_zero, swT, swL, hset_ap, not_true_eq_false, not_false_eq_true, true_implies, false_implies, implies_true, Int32.reduceLE, Int32.reduceLT, Int32.reduceAdd, Int32.reduceSub, Int32.reduceOfInt, Int32.reduceToNatClampNeg, i10, i01, Nat.add_left_cancel_iff, Nat.left_eq_add, Nat.add_eq_left, cdX11_led, F1]
              refine cont h4 c4 a4 best m4 r4' ?_ (o3.tr o4)
              rcases hB with ⟨h1, h2⟩ | ⟨b, h1, h2, h3, h4, h5, h6⟩
              · exact Or.inl ⟨h1, fun y hy hs => by
                  by_cases ey : y = off
                  · subst ey; exact hg
                  · exact h2 y (by omega) hs⟩
              · exact Or.inr ⟨b, by omega, h2, h3, h4, h5, fun y hy hs hgy => by
                  by_cases ey : y = off
                  · subst ey; rw [hg] at hgy; cases hgy
                  · exact h6 y (by omega) hs hgy⟩
            · rw [if_neg hb]
              rw [Bool.eq_false_iff.mpr hb] at hg
              refine go_ok okF1 (C := cdX11_led) (by rfl) [83] 40 (by exact Nat.le_of_ble_eq_true rfl) ?_
              simp (maxSteps := 2000000) only [go, stp, inS, ↓reduceIte, Bool.false_eq_true, Nat.reduceLT, Nat.reduceEqDiff, Nat.reduceAdd, ldI, ldL, ldA, st1, st2, okS, List.getElem?_cons_zero, List.getElem?_cons_succ, List.length_cons, List.length_nil, List.set_cons_zero, List.set_cons_succ, callP, callF, popN, ct, Value.category, cI, List.getD_cons_zero, List.getD_cons_succ, and_self, and_true, true_and, Nat.zero_le, Nat.reduceLeDiff, Nat.add_zero, Nat.zero_add, List.nil_append, List.cons_append, Option.toList_some, Option.toList_none, List.append_nil, hset_ss, true_or, or_true, eq_self, beq_self_eq_true, List.drop_succ_cons, List.drop_zero, swT, swL, hset_ap, not_true_eq_false, not_false_eq_true, true_implies, false_implies, implies_true, Int32.reduceLE, Int32.reduceLT, Int32.reduceAdd, Int32.reduceSub, Int32.reduceOfInt, Int32.reduceToNatClampNeg, i10, i01, Nat.add_left_cancel_iff, Nat.left_eq_add, Nat.add_eq_left, cdX11_led, F1]
              refine cont h4 c4 a4 (nI off) m4 r4' ?_ (o3.tr o4)
              refine Or.inr ⟨off, by omega, ho, rfl, hs2, hg, fun y hy hs hgy => ?_⟩
              by_cases ey : y = off
              · subst ey; exact Or.inr ⟨rfl, Nat.le_refl _⟩
              · rcases hB with ⟨h1, h2⟩ | ⟨b, h1, h2, h3, h4, h5, h6⟩
                · rw [h2 y (by omega) hs] at hgy; cases hgy
                · rcases hbetter with q | ⟨b', q1, q2, q3⟩
                  · exact absurd (h3.symm.trans q) (nI_m1 (by omega))
                  · have : b' = b := (i_eq (by omega) (by omega)).mp (q1.symm.trans h3)
                    subst this
                    rcases h6 y (by omega) hs hgy with q | q
                    · exact Or.inl (by omega)
                    · exact Or.inl (by omega)
          rcases hB with ⟨h1, h2⟩ | ⟨b, h1, h2, h3, h4, h5, h6⟩
          · subst h1
            refine go_ok okF1 (C := cdX11_led) (by rfl) [67] 40 (by exact Nat.le_of_ble_eq_true rfl) ?_
            simp (maxSteps := 2000000) only [go, stp, inS, ↓reduceIte, Bool.false_eq_true, Nat.reduceLT, Nat.reduceEqDiff, Nat.reduceAdd, ldI, ldL, ldA, st1, st2, okS, List.getElem?_cons_zero, List.getElem?_cons_succ, List.length_cons, List.length_nil, List.set_cons_zero, List.set_cons_succ, callP, callF, popN, ct, Value.category, cI, List.getD_cons_zero, List.getD_cons_succ, and_self, and_true, true_and, Nat.zero_le, Nat.reduceLeDiff, Nat.add_zero, Nat.zero_add, List.nil_append, List.cons_append, Option.toList_some, Option.toList_none, List.append_nil, hset_ss, true_or, or_true, eq_self, beq_self_eq_true, List.drop_succ_cons, List.drop_zero, swT, swL, hset_ap, not_true_eq_false, not_false_eq_true, true_implies, false_implies, implies_true, Int32.reduceLE, Int32.reduceLT, Int32.reduceAdd, Int32.reduceSub, Int32.reduceOfInt, Int32.reduceToNatClampNeg, i10, i01, Nat.add_left_cancel_iff, Nat.left_eq_add, Nat.add_eq_left, cdX11_led, F1, m2.o]
            exact ask (Or.inl rfl)
          · subst h3
            have nb : ¬ nI b = -1 := nI_m1 (by omega)
            have p1 := pcN_le (nI off) 8
            have p2 := pcN_le (nI b) 8
            refine go_ok okF1 (C := cdX11_led) (by rfl) [67, 83] 40 (by exact Nat.le_of_ble_eq_true rfl) ?_
            simp (maxSteps := 2000000) only [go, stp, inS, ↓reduceIte, Bool.false_eq_true, Nat.reduceLT, Nat.reduceEqDiff, Nat.reduceAdd, ldI, ldL, ldA, st1, st2, okS, List.getElem?_cons_zero, List.getElem?_cons_succ, List.length_cons, List.length_nil, List.set_cons_zero, List.set_cons_succ, callP, callF, popN, ct, Value.category, cI, List.getD_cons_zero, List.getD_cons_succ, and_self, and_true, true_and, Nat.zero_le, Nat.reduceLeDiff, Nat.add_zero, Nat.zero_add, List.nil_append, List.cons_append, Option.toList_some, Option.toList_none, List.append_nil, hset_ss, true_or, or_true, eq_self, beq_self_eq_true, List.drop_succ_cons, List.drop_zero, swT, swL, hset_ap, not_true_eq_false, not_false_eq_true, true_implies, false_implies, implies_true, Int32.reduceLE, Int32.reduceLT, Int32.reduceAdd, Int32.reduceSub, Int32.reduceOfInt, Int32.reduceToNatClampNeg, i10, i01, Nat.add_left_cancel_iff, Nat.left_eq_add, Nat.add_eq_left, cdX11_led, F1, m2.o, nb]
            refine D_ones ho ?_
            refine go_ok okF1 (C := cdX11_led) (by rfl) [67, 83] 40 (by exact Nat.le_of_ble_eq_true rfl) ?_
            simp (maxSteps := 2000000) only [go, stp, inS, ↓reduceIte, Bool.false_eq_true, Nat.reduceLT, Nat.reduceEqDiff, Nat.reduceAdd, ldI, ldL, ldA, st1, st2, okS, List.getElem?_cons_zero, List.getElem?_cons_succ, List.length_cons, List.length_nil, List.set_cons_zero, List.set_cons_succ, callP, callF, popN, ct, Value.category, cI, List.getD_cons_zero, List.getD_cons_succ, and_self, and_true, true_and, Nat.zero_le, Nat.reduceLeDiff, Nat.add_zero, Nat.zero_add, List.nil_append, List.cons_append, Option.toList_some, Option.toList_none, List.append_nil, hset_ss, true_or, or_true, eq_self, beq_self_eq_true, List.drop_succ_cons, List.drop_zero, swT, swL, hset_ap, not_true_eq_false, not_false_eq_true, true_implies, false_implies, implies_true, Int32.reduceLE, Int32.reduceLT, Int32.reduceAdd, Int32.reduceSub, Int32.reduceOfInt, Int32.reduceToNatClampNeg, i10, i01, Nat.add_left_cancel_iff, Nat.left_eq_add, Nat.add_eq_left, cdX11_led, F1]
            refine D_ones h2 ?_
            by_cases e : pc8 off < pc8 b
            · have e2 : ¬ nI (pcN (nI b) 8) ≤ nI (pcN (nI off) 8) := by rw [i_le (by omega) (by omega)]; exact Nat.not_le.mpr e
              refine go_ok okF1 (C := cdX11_led) (by rfl) [67, 83] 40 (by exact Nat.le_of_ble_eq_true rfl) ?_
              simp (maxSteps := 2000000) only [go, stp, inS, ↓reduceIte, Bool.false_eq_true, Nat.reduceLT, Nat.reduceEqDiff, Nat.reduceAdd, ldI, ldL, ldA, st1, st2, okS, List.getElem?_cons_zero, List.getElem?_cons_succ, List.length_cons, List.length_nil, List.set_cons_zero, List.set_cons_succ, callP, callF, popN, ct, Value.category, cI, List.getD_cons_zero, List.getD_cons_succ, and_self, and_true, true_and, Nat.zero_le, Nat.reduceLeDiff, Nat.add_zero, Nat.zero_add, List.nil_append, List.cons_append, Option.toList_some, Option.toList_none, List.append_nil, hset_ss, true_or, or_true, eq_self, beq_self_eq_true, List.drop_succ_cons, List.drop_zero, swT, swL, hset_ap, not_true_eq_false, not_false_eq_true, true_implies, false_implies, implies_true, Int32.reduceLE, Int32.reduceLT, Int32.reduceAdd, Int32.reduceSub, Int32.reduceOfInt, Int32.reduceToNatClampNeg, i10, i01, Nat.add_left_cancel_iff, Nat.left_eq_add, Nat.add_eq_left, cdX11_led, F1, e2]
              exact ask (Or.inr ⟨b, rfl, h2, e⟩)
            · have e2 : nI (pcN (nI b) 8) ≤ nI (pcN (nI off) 8) := by rw [i_le (by omega) (by omega)]; exact Nat.not_lt.mp e
              refine go_ok okF1 (C := cdX11_led) (by rfl) [67, 83] 40 (by exact Nat.le_of_ble_eq_true rfl) ?_
              simp (maxSteps := 2000000) only [go, stp, inS, ↓reduceIte, Bool.false_eq_true, Nat.reduceLT, Nat.reduceEqDiff, Nat.reduceAdd, ldI, ldL, ldA, st1, st2, okS, List.getElem?_cons_zero, List.getElem?_cons_succ, List.length_cons, List.length_nil, List.set_cons_zero, List.set_cons_succ, callP, callF, popN, ct, Value.category, cI, List.getD_cons_zero, List.getD_cons_succ, and_self, and_true, true_and, Nat.zero_le, Nat.reduceLeDiff, Nat.add_zero, Nat.zero_add, List.nil_append, List.cons_append, Option.toList_some, Option.toList_none, List.append_nil, hset_ss, true_or, or_true, eq_self, beq_self_eq_true, List.drop_succ_cons, List.drop_zero, swT, swL, hset_ap, not_true_eq_false, not_false_eq_true, true_implies, false_implies, implies_true, Int32.reduceLE, Int32.reduceLT, Int32.reduceAdd, Int32.reduceSub, Int32.reduceOfInt, Int32.reduceToNatClampNeg, i10, i01, Nat.add_left_cancel_iff, Nat.left_eq_add, Nat.add_eq_left, cdX11_led, F1, eq_true e2]
              refine cont _ _ _ (nI b) m3 (by show rdy (ruM M (M.ru &&& (nI off ^^^ (-1))) M.fa) _ _ _ _; exact r3) ?_ o3
              exact Or.inr ⟨b, by omega, h2, rfl, h4, h5, fun y hy hs hgy => by
                by_cases ey : y = off
                · subst ey
                  rcases Nat.lt_or_ge (pc8 b) (pc8 y) with q | q
                  · exact Or.inl q
                  · exact Or.inr ⟨by omega, by omega⟩
                · exact h6 y (by omega) hs hgy⟩
      have eM : ruM M (c1 28) M.fa = M := by rw [r1.ru]; rfl
      exact loop 256 0 h1 c1 a1 _ (-1) (by omega) (by omega) (Nat.zero_and _) (m1.kl c1) (by rw [eM]; exact rd) (Or.inl ⟨rfl, fun y hy => absurd hy (by omega)⟩) o1
  · rw [if_neg hl] at hq
    refine go_ok okF1 (C := cdX11_led) (by rfl) [] 40 (by exact Nat.le_of_ble_eq_true rfl) ?_
    simp (maxSteps := 2000000) only [go, stp, inS, ↓reduceIte, Bool.false_eq_true, Nat.reduceLT, Nat.reduceEqDiff, Nat.reduceAdd, ldI, ldL, ldA, st1, st2, okS, List.getElem?_cons_zero, List.getElem?_cons_succ, List.length_cons, List.length_nil, List.set_cons_zero, List.set_cons_succ, callP, callF, popN, ct, Value.category, cI, List.getD_cons_zero, List.getD_cons_succ, and_self, and_true, true_and, Nat.zero_le, Nat.reduceLeDiff, Nat.add_zero, Nat.zero_add, List.nil_append, List.cons_append, Option.toList_some, Option.toList_none, List.append_nil, hset_ss, true_or, or_true, eq_self, beq_self_eq_true, List.drop_succ_cons, List.drop_zero, swT, swL, hset_ap, not_true_eq_false, not_false_eq_true, true_implies, false_implies, implies_true, Int32.reduceLE, Int32.reduceLT, Int32.reduceAdd, Int32.reduceSub, Int32.reduceOfInt, Int32.reduceToNatClampNeg, i10, i01, Nat.add_left_cancel_iff, Nat.left_eq_add, Nat.add_eq_left, cdX11_led, F1, eq_false hl]
    exact hq h m0 sOff.rf
end MW2
