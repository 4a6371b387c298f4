/-! how many bits, of twenty -/
theorem land_split {p q m m' : Nat} (hp : p < 256) (hm : m < 256) : (p + 256 * q) &&& (m + 256 * m') = (p &&& m) + 256 * (q &&& m') := by
  apply Nat.eq_of_testBit_eq
  intro i
  have hpm : p &&& m < 2 ^ 8 := Nat.and_lt_two_pow _ hm
  rw [Nat.testBit_and, Nat.add_comm p, Nat.add_comm m, Nat.add_comm (p &&& m), show (256 : Nat) = 2 ^ 8 from rfl, Nat.testBit_two_pow_mul_add _ hp, Nat.testBit_two_pow_mul_add _ hm, Nat.testBit_two_pow_mul_add _ hpm]
  by_cases h : i < 8
  · rw [if_pos h, if_pos h, if_pos h, Nat.testBit_and]
  · rw [if_neg h, if_neg h, if_neg h, Nat.testBit_and]
def q1 (a : Nat) : Nat := a - (a / 2 &&& 85)
def q2 (a : Nat) : Nat := (a &&& 51) + (a / 4 &&& 51)
def q3 (a : Nat) : Nat := (a + a / 16) % 16
def tb (a : Nat) : Nat → Nat
  | 0 => 0
  | m + 1 => tb a m + b2n (a.testBit m)
theorem by1 : ∀ a, a < 256 → ∀ t, t < 2 → (a / 2 + 128 * t) &&& 85 = a / 2 &&& 85 := by decide +kernel
theorem by1' : ∀ a, a < 256 → (a / 2 &&& 85) ≤ a ∧ q1 a < 256 := by decide +kernel
theorem by2 : ∀ a, a < 256 → ∀ t, t < 4 → (a / 4 + 64 * t) &&& 51 = a / 4 &&& 51 := by decide +kernel
theorem by3 : ∀ a, a < 256 → q2 (q1 a) % 16 ≤ 4 ∧ q2 (q1 a) ≤ 68 ∧ q3 (q2 (q1 a)) = tb a 8 := by decide +kernel
theorem tb8 (x : Nat) : tb x 8 ≤ 8 := by
  simp only [tb]
  have u := fun i => b2n_le (x.testBit i)
  have := u 0; have := u 1; have := u 2; have := u 3; have := u 4; have := u 5; have := u 6; have := u 7
  omega
def nb (x : Nat) : Nat :=
  let a := x - ((x / 2) &&& 1431655765)
  let b := (a &&& 858993459) + ((a / 4) &&& 858993459)
  let c := (b + b / 16) &&& 252645135
  let d := c + c / 256
  let e := d + d / 65536
  e % 64
theorem nb_eq {a b c : Nat} (ha : a < 256) (hb : b < 256) (hc : c < 16) : nb (a + 256 * (b + 256 * c)) = tb a 8 + tb b 8 + tb c 8 := by
  obtain ⟨a1, a2⟩ := by1' a ha
  obtain ⟨b1, b2⟩ := by1' b hb
  obtain ⟨c1, c2⟩ := by1' c (by omega)
  obtain ⟨a3, a4, a5⟩ := by3 a ha
  obtain ⟨b3, b4, b5⟩ := by3 b hb
  obtain ⟨c3, c4, c5⟩ := by3 c (by omega)
  have s1 : (a + 256 * (b + 256 * c)) - (((a + 256 * (b + 256 * c)) / 2) &&& 1431655765) = q1 a + 256 * (q1 b + 256 * q1 c) := by
    rw [show (a + 256 * (b + 256 * c)) / 2 = (a / 2 + 128 * (b % 2)) + 256 * ((b / 2 + 128 * (c % 2)) + 256 * (c / 2 + 256 * 0)) by omega, show 1431655765 = 85 + 256 * (85 + 256 * (85 + 256 * 85)) from rfl, land_split (by omega) (by omega), land_split (by omega) (by omega), land_split (by omega) (by omega), by1 a ha _ (by omega), by1 b hb _ (by omega), Nat.zero_and]
    unfold q1
    omega
  have s2 : ∀ A B C, A < 256 → B < 256 → C < 256 → ((A + 256 * (B + 256 * C)) &&& 858993459) + (((A + 256 * (B + 256 * C)) / 4) &&& 858993459) = q2 A + 256 * (q2 B + 256 * q2 C) := by
    intro A B C hA hB hC
    rw [show (A + 256 * (B + 256 * C)) / 4 = (A / 4 + 64 * (B % 4)) + 256 * ((B / 4 + 64 * (C % 4)) + 256 * (C / 4 + 256 * 0)) by omega, show A + 256 * (B + 256 * C) = A + 256 * (B + 256 * (C + 256 * 0)) by omega, show 858993459 = 51 + 256 * (51 + 256 * (51 + 256 * 51)) from rfl, land_split (by omega) (by omega), land_split (by omega) (by omega), land_split (by omega) (by omega), land_split (by omega) (by omega), land_split (by omega) (by omega), land_split (by omega) (by omega), by2 A hA _ (by omega), by2 B hB _ (by omega), Nat.zero_and]
    unfold q2
    omega
  have s3 : ∀ A B C, A % 16 ≤ 4 → A ≤ 68 → B % 16 ≤ 4 → B ≤ 68 → C % 16 ≤ 4 → C ≤ 68 → (((A + 256 * (B + 256 * C)) + (A + 256 * (B + 256 * C)) / 16) &&& 252645135) = q3 A + 256 * (q3 B + 256 * q3 C) := by
    intro A B C h1 h2 h3 h4 h5 h6
    rw [show (A + 256 * (B + 256 * C)) + (A + 256 * (B + 256 * C)) / 16 = (A + A / 16 + 16 * (B % 16)) + 256 * ((B + B / 16 + 16 * (C % 16)) + 256 * (C + C / 16 + 256 * 0)) by omega, show 252645135 = 15 + 256 * (15 + 256 * (15 + 256 * 15)) from rfl, land_split (by omega) (by omega), land_split (by omega) (by omega), land_split (by omega) (by omega), Nat.zero_and]
    have m15 : ∀ x : Nat, x &&& 15 = x % 16 := fun x => Nat.and_two_pow_sub_one_eq_mod x 4
    rw [m15, m15, m15]
    unfold q3
    omega
  unfold nb
  dsimp only
  rw [s1, s2 _ _ _ a2 b2 c2, s3 _ _ _ a3 a4 b3 b4 c3 c4, a5, b5, c5]
  have t8 := tb8
  have pa := t8 a; have pb := t8 b; have pc := t8 c
  generalize tb a 8 = pa0 at *
  generalize tb b 8 = pb0 at *
  generalize tb c 8 = pc0 at *
  have h1 : (pa0 + 256 * (pb0 + 256 * pc0)) / 256 = pb0 + 256 * pc0 := by omega
  rw [h1]
  have h2 : (pa0 + 256 * (pb0 + 256 * pc0) + (pb0 + 256 * pc0)) / 65536 = pc0 := by omega
  rw [h2]
  omega
theorem bt_nI (j : Nat) {i : Nat} (hi : i < 32) : bt (nI j) i = j.testBit i := by
  show (BitVec.ofNat 32 j).getLsbD i = _
  rw [BitVec.getLsbD_ofNat]; simp [hi]
theorem nI_and (a b : Nat) : nI a &&& nI b = nI (a &&& b) := b_ext fun i hi => by rw [b_and, bt_nI _ hi, bt_nI _ hi, bt_nI _ hi, Nat.testBit_and]
theorem bc_nb {x : Nat} (hx : x < 2 ^ 31) : bcE (nI x) = nI (nb x) := by
  have u : ∀ (y k : Nat), y < 2 ^ 32 → k < 32 → ((nI y).toUInt32 >>> ((nI k).toUInt32 &&& Int32.toUInt32 31)).toInt32 = nI (y / 2 ^ k) := fun y k hy hk => pk_ushrN hy _ k (s_u k hk)
  unfold bcE nb
  dsimp only
  have e1 : nI x - (((nI x).toUInt32 >>> ((1 : Int32).toUInt32 &&& Int32.toUInt32 31)).toInt32 &&& 1431655765) = nI (x - ((x / 2) &&& 1431655765)) := by
    rw [show (1 : Int32) = nI 1 from rfl, u x 1 (by omega) (by omega), show (1431655765 : Int32) = nI 1431655765 from rfl, nI_and, pk_sub (Nat.le_trans Nat.and_le_left (Nat.div_le_self _ _))]
  rw [e1]
  have l1 : x - ((x / 2) &&& 1431655765) < 2 ^ 31 := by omega
  generalize x - ((x / 2) &&& 1431655765) = a at l1 ⊢
  have e2 : (nI a &&& 858993459) + (((nI a).toUInt32 >>> ((2 : Int32).toUInt32 &&& Int32.toUInt32 31)).toInt32 &&& 858993459) = nI ((a &&& 858993459) + ((a / 4) &&& 858993459)) := by
    rw [show (2 : Int32) = nI 2 from rfl, u a 2 (by omega) (by omega), show (858993459 : Int32) = nI 858993459 from rfl, nI_and, nI_and, nI_add]
  rw [e2]
  have l2 : (a &&& 858993459) + ((a / 4) &&& 858993459) < 2 ^ 31 := by
    have w1 : a &&& 858993459 ≤ 858993459 := Nat.and_le_right
    have w2 : (a / 4) &&& 858993459 ≤ 858993459 := Nat.and_le_right
    omega
  generalize (a &&& 858993459) + ((a / 4) &&& 858993459) = b at l2 ⊢
  have e3 : (nI b + ((nI b).toUInt32 >>> ((4 : Int32).toUInt32 &&& Int32.toUInt32 31)).toInt32) &&& 252645135 = nI ((b + b / 16) &&& 252645135) := by
    rw [show (4 : Int32) = nI 4 from rfl, u b 4 (by omega) (by omega), show (252645135 : Int32) = nI 252645135 from rfl, nI_add, nI_and]
  rw [e3]
  have l3 : (b + b / 16) &&& 252645135 ≤ 252645135 := Nat.and_le_right
  generalize (b + b / 16) &&& 252645135 = d at l3 ⊢
  have e4 : nI d + ((nI d).toUInt32 >>> ((8 : Int32).toUInt32 &&& Int32.toUInt32 31)).toInt32 = nI (d + d / 256) := by
    rw [show (8 : Int32) = nI 8 from rfl, u d 8 (by omega) (by omega), nI_add]
  rw [e4]
  have l4 : d + d / 256 < 2 ^ 31 := by omega
  generalize d + d / 256 = e at l4 ⊢
  have e5 : nI e + ((nI e).toUInt32 >>> ((16 : Int32).toUInt32 &&& Int32.toUInt32 31)).toInt32 = nI (e + e / 65536) := by
    rw [show (16 : Int32) = nI 16 from rfl, u e 16 (by omega) (by omega), nI_add]
  rw [e5, show (63 : Int32) = nI 63 from rfl, nI_and]
  congr 1
  exact Nat.and_two_pow_sub_one_eq_mod _ 6
theorem pcN_20 {x : Nat} (hx : x < 2 ^ 20) : pcN (nI x) 20 = nb x := by
  have hn := nb_eq (a := x % 256) (b := x / 256 % 256) (c := x / 65536) (by omega) (by omega) (by omega)
  rw [show x % 256 + 256 * (x / 256 % 256 + 256 * (x / 65536)) = x by omega] at hn
  rw [hn]
  have b0 : ∀ i, i < 8 → bt (nI x) i = (x % 256).testBit i := fun i hi => by
    rw [bt_nI _ (by omega), show (256 : Nat) = 2 ^ 8 from rfl, Nat.testBit_mod_two_pow]; simp [hi]
  have b1 : ∀ i, i < 8 → bt (nI x) (8 + i) = (x / 256 % 256).testBit i := fun i hi => by
    rw [bt_nI _ (by omega), show (256 : Nat) = 2 ^ 8 from rfl, Nat.testBit_mod_two_pow, Nat.testBit_div_two_pow]; simp [hi, Nat.add_comm]
  have b2 : ∀ i, i < 8 → bt (nI x) (16 + i) = (x / 65536).testBit i := fun i hi => by
    rw [bt_nI _ (by omega), show (65536 : Nat) = 2 ^ 16 from rfl, Nat.testBit_div_two_pow, Nat.add_comm]
  have z : ∀ i, 4 ≤ i → (x / 65536).testBit i = false := fun i hi => Nat.testBit_lt_two_pow (Nat.lt_of_lt_of_le (show x / 65536 < 2 ^ 4 by omega) (Nat.pow_le_pow_right (by omega) hi))
  simp only [pcN, tb]
  rw [b0 0 (by omega), b0 1 (by omega), b0 2 (by omega), b0 3 (by omega), b0 4 (by omega), b0 5 (by omega), b0 6 (by omega), b0 7 (by omega)]
  rw [show bt (nI x) 8 = _ from b1 0 (by omega), show bt (nI x) 9 = _ from b1 1 (by omega), show bt (nI x) 10 = _ from b1 2 (by omega), show bt (nI x) 11 = _ from b1 3 (by omega), show bt (nI x) 12 = _ from b1 4 (by omega), show bt (nI x) 13 = _ from b1 5 (by omega), show bt (nI x) 14 = _ from b1 6 (by omega), show bt (nI x) 15 = _ from b1 7 (by omega)]
  rw [show bt (nI x) 16 = _ from b2 0 (by omega), show bt (nI x) 17 = _ from b2 1 (by omega), show bt (nI x) 18 = _ from b2 2 (by omega), show bt (nI x) 19 = _ from b2 3 (by omega)]
  rw [z 4 (by omega), z 5 (by omega), z 6 (by omega), z 7 (by omega), show b2n false = 0 from rfl]
  omega
theorem bc_20 {x : Int32} (h : ∀ i, 20 ≤ i → bt x i = false) : bcE x = nI (pcN x 20) := by
  obtain ⟨j, hj, rfl⟩ := b_small (m := 20) (by omega) h
  rw [bc_nb (by omega), pcN_20 hj]
-- a bit that comes to others
theorem pcN_or {x : Int32} {b : Nat} (hb : b < 32) (hx : bt x b = false) : ∀ m, m ≤ 32 → pcN (x ||| ((1 : Int32) <<< (nI b &&& 31))) m = pcN x m + (if b < m then 1 else 0)
  | 0, _ => rfl
  | m + 1, hm => by
    rw [pcN, pcN, pcN_or hb hx m (by omega), b_or, b_pw b hb m (by omega)]
    by_cases e : m = b
    · subst e; rw [hx, if_neg (by omega), if_pos (by omega)]; simp [b2n]
    · by_cases e2 : b < m
      · rw [if_pos e2, if_pos (by omega)]; simp [e]; omega
      · rw [if_neg e2, if_neg (by omega)]; simp [e]
theorem or_me {x : Int32} {b : Nat} (hb : b < 32) (hx : bt x b = true) : x ||| ((1 : Int32) <<< (nI b &&& 31)) = x := b_ext fun i hi => by
  rw [b_or, b_pw b hb i hi]
  by_cases e : i = b
  · subst e; rw [hx]; rfl
  · simp [e]
theorem okV_j {v : Int32} (h : okV v) : v = -100 ∨ ∃ j, j < 19 ∧ v = nI j - 9 := by
  rcases h with h | ⟨h1, h2⟩
  · exact Or.inl h
  · right
    rw [Int32.le_iff_toInt_le] at h1 h2
    rw [show (-9 : Int32).toInt = -9 from rfl] at h1
    rw [show (9 : Int32).toInt = 9 from rfl] at h2
    have e : (v + 9).toInt = v.toInt + 9 := by
      rw [Int32.toInt_add, show (9 : Int32).toInt = 9 from rfl, Int.bmod_eq_of_le (by omega) (by omega)]
    obtain ⟨j, hj, ej⟩ := i_of (x := v + 9) (n := 19) (by omega) (by rw [Int32.lt_iff_toInt_lt, e, show (0 : Int32).toInt = 0 from rfl]; omega) (by rw [Int32.lt_iff_toInt_lt, e, show (nI 19).toInt = 19 from rfl]; omega)
    exact ⟨j, hj, by rw [← ej, Int32.add_sub_cancel]⟩
def kdB (v : Int32) : Nat := (kdN v).toNatClampNeg
theorem kd_fin : ∀ j, j < 19 → kdN (nI j - 9) = nI (j + 1) ∧ ¬ nI j - 9 = -100 := by decide +kernel
theorem kd_b {v : Int32} (h : okV v) : kdN v = nI (kdB v) ∧ kdB v < 20 := by
  unfold kdB
  rcases okV_j h with rfl | ⟨j, hj, rfl⟩
  · decide
  · rw [(kd_fin j hj).1, i_cl (by omega)]; exact ⟨rfl, by omega⟩
theorem kd_inj {v w : Int32} (h : okV v) (h' : okV w) : kdB v = kdB w ↔ v = w := by
  refine ⟨fun e => ?_, fun e => by rw [e]⟩
  unfold kdB at e
  rcases okV_j h with rfl | ⟨j, hj, rfl⟩ <;> rcases okV_j h' with rfl | ⟨k, hk, rfl⟩
  · rfl
  · rw [(kd_fin k hk).1, i_cl (by omega), show (kdN (-100)).toNatClampNeg = 0 from by decide] at e; omega
  · rw [(kd_fin j hj).1, i_cl (by omega), show (kdN (-100)).toNatClampNeg = 0 from by decide] at e; omega
  · rw [(kd_fin j hj).1, (kd_fin k hk).1, i_cl (by omega), i_cl (by omega)] at e
    rw [show j = k by omega]
theorem ku_bt {f : Nat → Int32} {s : Int32} {c : Nat} : ∀ {q : Nat}, (∀ r, r < q → okV (f (r * 3 + c))) → ∀ b, b < 32 → (bt (kuF f s c q) b = true ↔ ∃ r, r < q ∧ bt s r = true ∧ kdB (f (r * 3 + c)) = b)
  | 0, _, b, hb => by rw [kuF, b_0]; exact ⟨fun q => absurd q (by decide), fun ⟨r, h, _⟩ => by omega⟩
  | q + 1, h, b, hb => by
    have ih := ku_bt (s := s) (q := q) (fun r hr => h r (by omega)) b hb
    obtain ⟨k1, k2⟩ := kd_b (h q (by omega))
    rw [kuF, b_or, b_ite, b_0, k1, b_pw _ (by omega) b hb, Bool.or_eq_true, ih]
    constructor
    · rintro (⟨r, q1, q2, q3⟩ | w)
      · exact ⟨r, by omega, q2, q3⟩
      · by_cases hs : bt s q = true
        · rw [if_pos hs] at w; exact ⟨q, by omega, hs, (of_decide_eq_true w).symm⟩
        · rw [if_neg hs] at w; cases w
    · rintro ⟨r, q1, q2, q3⟩
      by_cases er : r = q
      · subst er; right; rw [if_pos q2]; exact decide_eq_true q3.symm
      · exact Or.inl ⟨r, by omega, q2, q3⟩
theorem ku_pc {f : Nat → Int32} {s : Int32} {c : Nat} : ∀ {q : Nat}, (∀ r, r < q → okV (f (r * 3 + c))) → pcN (kuF f s c q) 20 = kiN f s c q
  | 0, _ => by rw [kuF, kiN]; decide
  | q + 1, h => by
    have ih := ku_pc (s := s) (q := q) (fun r hr => h r (by omega))
    obtain ⟨k1, k2⟩ := kd_b (h q (by omega))
    have hb := ku_bt (s := s) (q := q) (fun r hr => h r (by omega)) (kdB (f (q * 3 + c))) (by omega)
    rw [kuF, kiN, k1]
    by_cases hs : bt s q = true
    · rw [if_pos hs, hs, Bool.true_and]
      by_cases ha : anyB q (fun o => bt s o && f (o * 3 + c) == f (q * 3 + c)) = true
      · have : bt (kuF f s c q) (kdB (f (q * 3 + c))) = true := hb.mpr (by
          obtain ⟨o, h1, h2⟩ := anyB_iff.mp ha
          rw [Bool.and_eq_true, beq_iff_eq] at h2
          exact ⟨o, h1, h2.1, by rw [h2.2]⟩)
        rw [or_me (by omega) this, ih, ha]; rfl
      · have : bt (kuF f s c q) (kdB (f (q * 3 + c))) = false := Bool.eq_false_iff.mpr (fun w => by
          obtain ⟨o, h1, h2, h3⟩ := hb.mp w
          exact ha (anyB_iff.mpr ⟨o, h1, by rw [Bool.and_eq_true, beq_iff_eq]; exact ⟨h2, (kd_inj (h o (by omega)) (h q (by omega))).mp h3⟩⟩))
        rw [pcN_or (by omega) this 20 (by omega), if_pos k2, ih, Bool.eq_false_iff.mpr ha]; rfl
    · rw [if_neg hs, Bool.eq_false_iff.mpr hs]
      have : kuF f s c q ||| (0 : Int32) = kuF f s c q := b_ext fun i hi => by rw [b_or, b_0, Bool.or_false]
      rw [this, ih]; rfl
theorem ku_ki {f : Nat → Int32} {s : Int32} {c q : Nat} (h : ∀ r, r < q → okV (f (r * 3 + c))) : bcE (kuF f s c q) = nI (kiN f s c q) := by
  rw [bc_20 (fun i hi => by
    rcases Nat.lt_or_ge i 32 with h32 | h32
    · refine Bool.eq_false_iff.mpr (fun w => ?_)
      obtain ⟨r, h1, h2, h3⟩ := (ku_bt h i h32).mp w
      have := (kd_b (h r h1)).2
      omega
    · exact b_big h32), ku_pc h]
