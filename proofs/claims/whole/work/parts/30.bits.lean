def bt (x : Int32) (i : Nat) : Bool := x.toBitVec.getLsbD i
theorem b_ext {x y : Int32} (h : ∀ i, i < 32 → bt x i = bt y i) : x = y := Int32.toBitVec_inj.mp (BitVec.eq_of_getLsbD_eq (fun i hi => h i hi))
theorem b_or (x y : Int32) (i : Nat) : bt (x ||| y) i = (bt x i || bt y i) := by unfold bt; rw [Int32.toBitVec_or, BitVec.getLsbD_or]
theorem b_and (x y : Int32) (i : Nat) : bt (x &&& y) i = (bt x i && bt y i) := by unfold bt; rw [Int32.toBitVec_and, BitVec.getLsbD_and]
theorem b_xor (x y : Int32) (i : Nat) : bt (x ^^^ y) i = (bt x i ^^ bt y i) := by unfold bt; rw [Int32.toBitVec_xor, BitVec.getLsbD_xor]
theorem b_big {x : Int32} {i : Nat} (h : 32 ≤ i) : bt x i = false := BitVec.getLsbD_of_ge _ _ h
theorem b_255 (i : Nat) : bt 255 i = decide (i < 8) := by
  rcases Nat.lt_or_ge i 32 with h | h
  · exact (by decide +kernel : ∀ i, i < 32 → bt 255 i = decide (i < 8)) i h
  · rw [b_big h, decide_eq_false (by omega)]
theorem b_65535 (i : Nat) : bt 65535 i = decide (i < 16) := by
  rcases Nat.lt_or_ge i 32 with h | h
  · exact (by decide +kernel : ∀ i, i < 32 → bt 65535 i = decide (i < 16)) i h
  · rw [b_big h, decide_eq_false (by omega)]
theorem b_m1 : ∀ i, i < 32 → bt (-1) i = true := by decide +kernel
theorem b_0 (i : Nat) : bt 0 i = false := BitVec.getLsbD_zero
theorem s_l : ∀ n, n < 32 → ((nI n &&& 31).toBitVec.smod 32).toNat = n := by decide +kernel
theorem s_u : ∀ n, n < 32 → (((nI n).toUInt32 &&& Int32.toUInt32 31).toBitVec % 32).toNat = n := by decide +kernel
theorem b_shl (n : Nat) (hn : n < 32) (x : Int32) {i : Nat} (hi : i < 32) : bt (x <<< (nI n &&& 31)) i = (decide (n ≤ i) && bt x (i - n)) := by
  unfold bt
  rw [Int32.toBitVec_shiftLeft]
  show (x.toBitVec <<< ((nI n &&& 31).toBitVec.smod 32).toNat).getLsbD i = _
  rw [s_l n hn, BitVec.getLsbD_shiftLeft]
  rcases Nat.lt_or_ge i n with h | h
  · simp [h, Nat.not_le.mpr h]
  · simp [hi, h, Nat.not_lt.mpr h]
theorem b_ushr (n : Nat) (hn : n < 32) (x : Int32) (i : Nat) : bt ((x.toUInt32 >>> ((nI n).toUInt32 &&& Int32.toUInt32 31)).toInt32) i = bt x (n + i) := by
  show (x.toUInt32 >>> ((nI n).toUInt32 &&& Int32.toUInt32 31)).toBitVec.getLsbD i = x.toUInt32.toBitVec.getLsbD (n + i)
  rw [UInt32.toBitVec_shiftRight]
  show (x.toUInt32.toBitVec >>> (((nI n).toUInt32 &&& Int32.toUInt32 31).toBitVec % 32).toNat).getLsbD i = _
  rw [s_u n hn, BitVec.getLsbD_ushiftRight]
theorem b_sshr (n : Nat) (hn : n < 32) (x : Int32) {i : Nat} (hi : i < 32) : bt (x >>> (nI n &&& 31)) i = if n + i < 32 then bt x (n + i) else bt x 31 := by
  unfold bt
  rw [Int32.toBitVec_shiftRight]
  show (x.toBitVec.sshiftRight ((nI n &&& 31).toBitVec.smod 32).toNat).getLsbD i = _
  rw [s_l n hn, BitVec.getLsbD_sshiftRight, BitVec.msb_eq_getLsbD_last]
  simp [hi]
theorem b_shl8 (x : Int32) {i : Nat} (hi : i < 32) : bt (x <<< ((8 : Int32) &&& 31)) i = (decide (8 ≤ i) && bt x (i - 8)) := b_shl 8 (by omega) x hi
theorem b_shl16 (x : Int32) {i : Nat} (hi : i < 32) : bt (x <<< ((16 : Int32) &&& 31)) i = (decide (16 ≤ i) && bt x (i - 16)) := b_shl 16 (by omega) x hi
theorem b_shl24 (x : Int32) {i : Nat} (hi : i < 32) : bt (x <<< ((24 : Int32) &&& 31)) i = (decide (24 ≤ i) && bt x (i - 24)) := b_shl 24 (by omega) x hi
theorem b_sshr8 (x : Int32) {i : Nat} (hi : i < 32) : bt (x >>> ((8 : Int32) &&& 31)) i = if 8 + i < 32 then bt x (8 + i) else bt x 31 := b_sshr 8 (by omega) x hi

theorem b_not (x : Int32) {i : Nat} (hi : i < 32) : bt (x ^^^ (-1)) i = !bt x i := by rw [b_xor, b_m1 i hi]; cases bt x i <;> rfl
theorem b_1 : ∀ i, i < 32 → bt 1 i = decide (i = 0) := by decide +kernel
theorem b_pw : ∀ r, r < 32 → ∀ i, i < 32 → bt ((1 : Int32) <<< (nI r &&& 31)) i = decide (i = r) := by
  intro r hr i hi
  rw [b_shl r hr 1 hi, b_1 (i - r) (by omega)]
  by_cases h : i = r
  · subst h; simp
  · by_cases h2 : r ≤ i
    · simp [h]; omega
    · simp [h]; omega
theorem b_all : ∀ n, n < 17 → ∀ i, i < 32 → bt (((1 : Int32) <<< (nI n &&& 31)) - 1) i = decide (i < n) := by decide +kernel
theorem b_ite (c : Prop) [Decidable c] (x y : Int32) (i : Nat) : bt (if c then x else y) i = if c then bt x i else bt y i := by split <;> rfl
-- one bit of a mask, as Java asks for it
theorem b_ask (x : Int32) {r : Nat} (hr : r < 32) : (x >>> (nI r &&& 31)) &&& 1 = if bt x r = true then 1 else 0 := by
  refine b_ext fun i hi => ?_
  rw [b_and, b_sshr r hr x hi, b_1 i hi, b_ite, b_1 i hi, b_0]
  by_cases h : i = 0
  · subst h; simp [hr]
  · simp [h]
theorem b_ask1 (x : Int32) {r : Nat} (hr : r < 32) : ((x >>> (nI r &&& 31)) &&& 1 = 1) ↔ bt x r = true := by
  rw [b_ask x hr]
  by_cases h : bt x r = true
  · simp [h]
  · simp [h]
theorem b_ask0 (x : Int32) {r : Nat} (hr : r < 32) : ((x >>> (nI r &&& 31)) &&& 1 = 0) ↔ bt x r = false := by
  rw [b_ask x hr]
  by_cases h : bt x r = true
  · simp [h]
  · simp [h]
-- what is left of a mask from a bit on is 0: it has no bit from there on
theorem b_rest (x : Int32) {r : Nat} (hr : r < 32) (h : x >>> (nI r &&& 31) = 0) {i : Nat} (h1 : r ≤ i) : bt x i = false := by
  rcases Nat.lt_or_ge i 32 with hi | hi
  · have h2 := b_sshr r hr x (i := i - r) (by omega)
    rw [h, b_0, if_pos (by omega), show r + (i - r) = i by omega] at h2
    exact h2.symm
  · exact b_big hi
theorem b_zero (x : Int32) : x = 0 ↔ ∀ i, i < 32 → bt x i = false := ⟨fun h i _ => by rw [h, b_0], fun h => b_ext fun i hi => by rw [h i hi, b_0]⟩
theorem b_ne0 (x : Int32) : ¬ x = 0 ↔ ∃ i, i < 32 ∧ bt x i = true := by
  rw [b_zero]
  constructor
  · intro h
    apply Classical.byContradiction
    intro h2
    exact h fun i hi => by
      cases hb : bt x i with
      | false => rfl
      | true => exact absurd ⟨i, hi, hb⟩ h2
  · rintro ⟨i, hi, h⟩ h2
    rw [h2 i hi] at h; cases h
-- a mask by what its bits are
def mB : Nat → (Nat → Bool) → Int32
  | 0, _ => 0
  | n + 1, f => mB n f ||| (if f n = true then (1 : Int32) <<< (nI n &&& 31) else 0)
theorem b_mB (f : Nat → Bool) : ∀ n, n ≤ 32 → ∀ i, i < 32 → bt (mB n f) i = (decide (i < n) && f i)
  | 0, _, i, hi => by rw [mB, b_0]; simp
  | n + 1, hn, i, hi => by
    rw [mB, b_or, b_mB f n (by omega) i hi, b_ite, b_pw n (by omega) i hi, b_0]
    by_cases h1 : i = n
    · subst h1
      cases f i <;> simp
    · have h2 : (i < n + 1) ↔ (i < n) := by omega
      simp only [h1, h2]
      cases f n <;> simp
theorem mB_ext {f g : Nat → Bool} : ∀ {n : Nat}, (∀ i, i < n → f i = g i) → mB n f = mB n g
  | 0, _ => rfl
  | n + 1, h => by rw [mB, mB, mB_ext (n := n) (fun i hi => h i (by omega)), h n (by omega)]
-- numbers
theorem nI_31 : (2 : Nat) ^ 31 = 2147483648 := rfl
theorem i_lt {a b : Nat} (ha : a < 2147483648) (hb : b < 2147483648) : nI a < nI b ↔ a < b := nI_ltI ha hb
theorem i_le {a b : Nat} (ha : a < 2147483648) (hb : b < 2147483648) : nI a ≤ nI b ↔ a ≤ b := nI_leI ha hb
theorem i_eq {a b : Nat} (ha : a < 2147483648) (hb : b < 2147483648) : nI a = nI b ↔ a = b := nI_eq ha hb
theorem i_nn {a : Nat} (ha : a < 2147483648) : ¬ nI a < 0 := nI_pos ha
theorem i_cl {a : Nat} (ha : a < 2147483648) : (nI a).toNatClampNeg = a := nI_clamp ha
-- an Int32 that is no less than 0 and below a number
theorem i_of {x : Int32} {n : Nat} (hn : n < 2147483648) (h0 : ¬ x < 0) (h1 : x < nI n) : ∃ j, j < n ∧ x = nI j := by
  obtain ⟨j, hj, rfl⟩ := nI_of h0
  exact ⟨j, (i_lt hj hn).mp h1, rfl⟩
theorem i_nle {x y : Int32} : ¬ x ≤ y ↔ y < x := by
  rw [Int32.le_iff_toInt_le, Int32.lt_iff_toInt_lt]; omega
theorem i_nlt {x y : Int32} : ¬ x < y ↔ y ≤ x := by
  rw [Int32.le_iff_toInt_le, Int32.lt_iff_toInt_lt]; omega
theorem hset_s (h : aH) (a : Nat) (c : aC) : hset h a c a = some c := by simp [hset]
theorem hset_n (h : aH) {a k : Nat} (c : aC) (hk : k ≠ a) : hset h a c k = h k := by simp [hset, hk]
theorem hset_ap (h : aH) (a : Nat) (c : aC) (k : Nat) : hset h a c k = if k = a then some c else h k := rfl
theorem hset_ss (h : aH) (a : Nat) (c d : aC) : hset (hset h a c) a d = hset h a d := by funext k; simp only [hset]; split <;> rfl
theorem i10 : ((1 : Int32) = 0) = False := by decide
theorem i01 : ((0 : Int32) = 1) = False := by decide
theorem x_dn {x : Int32} {m : Nat} (h : x + 1 = nI (m + 1)) : x = nI m := by
  have h2 : x + 1 - 1 = nI m := by rw [h]; exact pk_sub (a := m + 1) (b := 1) (by omega)
  rwa [Int32.add_sub_cancel] at h2
theorem x_d0 {x : Int32} (h : x + 1 = nI 0) : x = -1 := by
  have h2 : x + 1 - 1 = -1 := by rw [h]; decide
  rwa [Int32.add_sub_cancel] at h2
theorem x_m1 (x : Int32) : x + -1 + 1 = x := by rw [Int32.add_assoc]; exact Int32.add_zero x
theorem x_s1 (x : Int32) : x - 1 + 1 = x := Int32.sub_add_cancel x 1
theorem i_rng {x : Int32} {a b : Nat} (hb : b < 2147483648) (h1 : nI a ≤ x) (h2 : x ≤ nI b) (ha : a ≤ b) : ∃ j, a ≤ j ∧ j ≤ b ∧ x = nI j := by
  have h0 : ¬ x < 0 := by
    rw [Int32.lt_iff_toInt_lt]; rw [Int32.le_iff_toInt_le, nI_toInt (by omega)] at h1
    have : (0 : Int32).toInt = 0 := by decide
    omega
  obtain ⟨j, hj, rfl⟩ := nI_of h0
  exact ⟨j, (i_le (by omega) (by omega)).mp h1, (i_le (by omega) (by omega)).mp h2, rfl⟩
