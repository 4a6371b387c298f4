/-! some rows of a table, and a table of these rows alone -/
def cnt (p : Nat → Bool) : Nat → Nat
  | 0 => 0
  | m + 1 => cnt p m + b2n (p m)
theorem pc_cnt {p : Nat → Bool} {q : Nat} (hq : q ≤ 32) : ∀ m, m ≤ q → pcN (mB q p) m = cnt p m
  | 0, _ => rfl
  | m + 1, h => by rw [pcN, cnt, pc_cnt hq m (by omega), b_mB _ _ hq m (by omega)]; simp [show m < q by omega]
theorem bc_cnt {p : Nat → Bool} {q : Nat} (hq : q ≤ 12) : bcE (mB q p) = nI (cnt p q) := by
  have e : ∀ i, q ≤ i → bt (mB q p) i = false := fun i hi => by
    rcases Nat.lt_or_ge i 32 with h32 | h32
    · rw [b_mB _ _ (by omega) i h32]; simp; omega
    · exact b_big h32
  rw [bc_12 (fun i hi => e i (by omega)), show (12 : Nat) = q + (12 - q) by omega, pcN_more e, pc_cnt (by omega) q (Nat.le_refl _)]
section CP
variable {s : Int32} {nr : Nat} {f f' : Nat → Int32} {V V' : Nat → Nat} {d : Nat → Bool} {p p' p2 p2' : Nat → Bool}
theorem c_any : ∀ m, (∀ r, r < m → bt s r = true → p' (pcN s r) = p r) → (∀ r, r < m → bt s r = false → p r = false) → anyB (pcN s m) p' = anyB m p
  | 0, _, _ => rfl
  | m + 1, h1, h2 => by
    have ih := c_any m (fun r hr => h1 r (by omega)) (fun r hr => h2 r (by omega))
    rw [pcN]
    cases hb : bt s m with
    | true => rw [show b2n true = 1 from rfl, anyB, anyB, ih, h1 m (by omega) hb]
    | false => rw [show b2n false = 0 from rfl, Nat.add_zero, ih, anyB, h2 m (by omega) hb, Bool.or_false]
theorem c_cnt : ∀ m, (∀ r, r < m → bt s r = true → p' (pcN s r) = p r) → (∀ r, r < m → bt s r = false → p r = false) → cnt p' (pcN s m) = cnt p m
  | 0, _, _ => rfl
  | m + 1, h1, h2 => by
    have ih := c_cnt m (fun r hr => h1 r (by omega)) (fun r hr => h2 r (by omega))
    rw [pcN]
    cases hb : bt s m with
    | true => rw [show b2n true = 1 from rfl, cnt, cnt, ih, h1 m (by omega) hb]
    | false => rw [show b2n false = 0 from rfl, Nat.add_zero, ih, cnt, h2 m (by omega) hb]; rfl
theorem c_tot {k : Nat} {x x' : Int32} (hk : k < 3) : ∀ m, (∀ r, r < m → bt s r = true → bt x' (pcN s r) = bt x r ∧ f' (pcN s r * 3 + k) = f (r * 3 + k)) → (∀ r, r < m → bt s r = false → bt x r = false) → toF f' x' k (pcN s m) = toF f x k m
  | 0, _, _ => rfl
  | m + 1, h1, h2 => by
    have ih := c_tot hk m (fun r hr => h1 r (by omega)) (fun r hr => h2 r (by omega))
    rw [pcN]
    cases hb : bt s m with
    | true =>
      obtain ⟨e1, e2⟩ := h1 m (by omega) hb
      rw [show b2n true = 1 from rfl, toF, toF, ih, e1, e2]
    | false => rw [show b2n false = 0 from rfl, Nat.add_zero, ih, toF, h2 m (by omega) hb]; simp
theorem c_kin {k : Nat} {x x' : Int32} (hk : k < 3) : ∀ m, (∀ r, r < m → bt s r = true → bt x' (pcN s r) = bt x r ∧ f' (pcN s r * 3 + k) = f (r * 3 + k)) → (∀ r, r < m → bt s r = false → bt x r = false) → kuF f' x' k (pcN s m) = kuF f x k m
  | 0, _, _ => rfl
  | m + 1, h1, h2 => by
    have ih := c_kin hk m (fun r hr => h1 r (by omega)) (fun r hr => h2 r (by omega))
    rw [pcN]
    cases hb : bt s m with
    | true =>
      obtain ⟨e1, e2⟩ := h1 m (by omega) hb
      rw [show b2n true = 1 from rfl, kuF, kuF, ih, e1, e2]
    | false =>
      rw [show b2n false = 0 from rfl, Nat.add_zero, ih, kuF, h2 m (by omega) hb, if_neg (by decide)]
      exact b_ext fun i hi => by rw [b_or, b_0, Bool.or_false]
def cpF (s : Int32) (nr : Nat) (f f' : Nat → Int32) : Prop := ∀ r, r < nr → bt s r = true → ∀ k, k < 3 → f' (pcN s r * 3 + k) = f (r * 3 + k)
def cpV (s : Int32) (nr : Nat) (V V' : Nat → Nat) : Prop := ∀ r, r < nr → bt s r = true → V' (pcN s r) = V r
theorem c_yB (hn : nr ≤ 12) (hV : cpV s nr V V') {r : Nat} (hr : r < nr) (hb : bt s r = true) : yB V' (alm (pcN s nr)) (pcN s r) = yB V s r := by
  have := pcN_le s nr
  have hl := pcN_lt hr hb
  unfold yB
  rw [hV r hr hb, hb, b_alm (by omega) (by omega)]; simp [hl]
theorem c_same (hf : cpF s nr f f') {o r : Nat} (ho : o < nr) (hr : r < nr) (bo : bt s o = true) (br : bt s r = true) : sameB f' (pcN s o) (pcN s r) = sameB f o r := by
  have a0 := hf o ho bo 0 (by omega); have b0 := hf r hr br 0 (by omega)
  rw [Nat.add_zero, Nat.add_zero] at a0 b0
  unfold sameB
  rw [a0, b0, hf o ho bo 1 (by omega), hf o ho bo 2 (by omega), hf r hr br 1 (by omega), hf r hr br 2 (by omega)]
theorem c_an (hn : nr ≤ 12) (hf : cpF s nr f f') (hV : cpV s nr V V') {r : Nat} (hr : r < nr) (hb : bt s r = true) {d7 : Bool} : anB d7 f' V' (alm (pcN s nr)) (pcN s r) = anB d7 f V s r := by
  unfold anB rpB
  rw [c_yB hn hV hr hb, c_any (s := s) (p := fun o => yB V s o && sameB f o r) r (fun o ho bo => by rw [c_yB hn hV (by omega) bo, c_same hf (by omega) hr bo hb]) (fun o ho bo => by unfold yB; rw [bo]; simp)]
theorem c_an0 {r : Nat} (hb : bt s r = false) {d7 : Bool} : anB d7 f V s r = false := by
  unfold anB yB; rw [hb]; simp
theorem c_bc (hn : nr ≤ 12) (hf : cpF s nr f f') (hV : cpV s nr V V') : bcE (anM d f' (pcN s nr) V' (alm (pcN s nr))) = bcE (anM d f nr V s) := by
  have := pcN_le s nr
  unfold anM
  rw [bc_cnt (by omega), bc_cnt hn, c_cnt (s := s) nr (fun r hr hb => c_an hn hf hV hr hb) (fun r hr hb => c_an0 hb)]
theorem c_bt (hn : nr ≤ 12) (hf : cpF s nr f f') (hV : cpV s nr V V') {r : Nat} (hr : r < nr) (hb : bt s r = true) : bt (anM d f' (pcN s nr) V' (alm (pcN s nr))) (pcN s r) = bt (anM d f nr V s) r := by
  have := pcN_le s nr
  have hl := pcN_lt hr hb
  unfold anM
  rw [b_mB _ _ (by omega) _ (by omega), b_mB _ _ (by omega) _ (by omega), c_an hn hf hV hr hb]; simp [hl, hr]
theorem c_bt0 (hn : nr ≤ 12) {r : Nat} (hr : r < nr) (hb : bt s r = false) : bt (anM d f nr V s) r = false := by
  unfold anM
  rw [b_mB _ _ (by omega) _ (by omega), c_an0 hb]; simp
theorem mB_eq {q : Nat} (hq : q ≤ 32) : (mB q p == mB q p2) = !anyB q (fun i => p i ^^ p2 i) := by
  rw [Bool.eq_iff_iff, beq_iff_eq, Bool.not_eq_true', Bool.eq_false_iff]
  constructor
  · intro e w
    obtain ⟨i, hi, hx⟩ := anyB_iff.mp w
    have := congrArg (fun z => bt z i) e
    rw [b_mB _ _ hq i (by omega), b_mB _ _ hq i (by omega)] at this
    simp only [hi, decide_true, Bool.true_and] at this
    rw [this] at hx; simp at hx
  · intro w
    refine mB_ext fun i hi => ?_
    cases h1 : p i <;> cases h2 : p2 i
    · rfl
    · exact absurd (anyB_iff.mpr ⟨i, hi, by rw [h1, h2]; rfl⟩) w
    · exact absurd (anyB_iff.mpr ⟨i, hi, by rw [h1, h2]; rfl⟩) w
    · rfl
theorem c_eq {W W' : Nat → Nat} (hn : nr ≤ 12) (hf : cpF s nr f f') (hV : cpV s nr V V') (hW : cpV s nr W W') : (anM d f' (pcN s nr) W' (alm (pcN s nr)) == anM d f' (pcN s nr) V' (alm (pcN s nr))) = (anM d f nr W s == anM d f nr V s) := by
  have := pcN_le s nr
  unfold anM
  rw [mB_eq (by omega), mB_eq (by omega), c_any (s := s) (p := fun i => anB (d 7) f W s i ^^ anB (d 7) f V s i) nr (fun r hr hb => by rw [c_an hn hf hV hr hb, c_an hn hf hW hr hb]) (fun r hr hb => by rw [c_an0 hb, c_an0 hb]; rfl)]
theorem cpV.map (hV : cpV s nr V V') (F : Nat → Nat) : cpV s nr (fun r => F (V r)) (fun r => F (V' r)) := fun r hr hb => by dsimp only; rw [hV r hr hb]
theorem ho12 : ∀ a, a < 64 → ∀ b, b < 64 → a * 64 + b = 0 ∨ hoE (nI (a * 64 + b)) = (1 : Int32) <<< (nI (Nat.log2 (a * 64 + b)) &&& 31) := by decide +kernel
theorem ho_top (hs : ∀ i, 12 ≤ i → bt s i = false) (h0 : ¬ s = 0) : ∃ t, t < 12 ∧ bt s t = true ∧ (∀ i, t < i → bt s i = false) ∧ hoE s = (1 : Int32) <<< (nI t &&& 31) := by
  obtain ⟨x, hx, rfl⟩ := b_small (m := 12) (by omega) hs
  have hx0 : x ≠ 0 := fun e => by subst e; exact h0 rfl
  have l1 := Nat.log2_self_le hx0
  have l2 := Nat.lt_log2_self (n := x)
  have l3 : Nat.log2 x < 12 := (Nat.log2_lt hx0).mpr hx
  refine ⟨Nat.log2 x, l3, ?_, fun i hi => ?_, ?_⟩
  · rw [bt_nI _ (by omega)]
    exact Nat.testBit_of_two_pow_le_and_two_pow_add_one_gt l1 l2
  · rcases Nat.lt_or_ge i 32 with h32 | h32
    · rw [bt_nI _ h32]
      exact Nat.testBit_lt_two_pow (Nat.lt_of_lt_of_le l2 (Nat.pow_le_pow_right (by omega) hi))
    · exact b_big h32
  · have := ho12 (x / 64) (by omega) (x % 64) (by omega)
    rw [show x / 64 * 64 + x % 64 = x by omega] at this
    exact this.resolve_left hx0
theorem c_en {nr : Nat} {V : Nat → Nat} {s : Int32} (hn : nr ≤ 12) : (enc nr V &&& 65535) &&& s = mB nr (yB V s) := b_ext fun i hi => by
  rw [b_and, b_yE (by omega), b_mB _ _ (by omega) i hi]
  unfold yB
  by_cases hr : i < nr
  · by_cases h1 : V i = 1 <;> simp [hr, h1]
  · simp [hr]
theorem bc_al {q : Nat} (h : q ≤ 12) : bcE (alm q) = nI q := by
  have e8 : ∀ i, q ≤ i → bt (alm q) i = false := fun i hi => by
    rcases Nat.lt_or_ge i 32 with h32 | h32
    · rw [b_alm (by omega) h32]; simp; omega
    · exact b_big h32
  rw [bc_12 (fun i hi => e8 i (by omega)), show (12 : Nat) = q + (12 - q) by omega, pcN_more (fun i hi => e8 i hi), pcN_all (by omega) (Nat.le_refl _)]
theorem pcN_z : ∀ m, pcN 0 m = 0
  | 0 => rfl
  | m + 1 => by rw [pcN, pcN_z m, b_0]; rfl
theorem lw_comp {law : Nat} {cmp : Bool} (hlaw : law < 7) (hn : nr ≤ 12) (hs : ∀ i, nr ≤ i → bt s i = false) (hf : cpF s nr f f') (hV : cpV s nr V V') : lwR law d f nr V s cmp = lwR law d f' (pcN s nr) V' (alm (pcN s nr)) cmp := by
  have hq := pcN_le s nr
  have s12 : ∀ i, 12 ≤ i → bt s i = false := fun i hi => hs i (by omega)
  by_cases h0 : s = 0
  · have : pcN s nr = 0 := by rw [h0]; exact pcN_z nr
    rw [this, (alm_z (by omega)).mpr rfl, lwR_z, h0, lwR_z]
  obtain ⟨t, t12, tb, ta, th⟩ := ho_top s12 h0
  have tn : t < nr := by
    rcases Nat.lt_or_ge t nr with q | q
    · exact q
    · rw [hs t q] at tb; cases tb
  have hz : ¬ alm (pcN s nr) = 0 := fun e => by
    rw [alm_z (by omega)] at e
    have := pcN_lt tn tb
    omega
  have bcs : bcE s = bcE (alm (pcN s nr)) := by
    rw [bc_al (by omega), bc_12 s12, show (12 : Nat) = nr + (12 - nr) by omega, pcN_more hs]
  rcases (by omega : law = 0 ∨ law = 1 ∨ law = 2 ∨ law = 3 ∨ law = 4 ∨ law = 5 ∨ law = 6) with rfl | rfl | rfl | rfl | rfl | rfl | rfl
  · rw [lwR_0 h0, lwR_0 hz, c_bc hn hf hV, c_bc hn hf (hV.map (fun v => vT (d 0) v)), c_bc hn hf (hV.map (fun v => vQ (cmp && d 5) v)), bcs]
  · rw [lwR_1 h0, lwR_1 hz, c_en hn, c_en (by omega)]
    unfold anM
    rw [mB_eq (by omega), mB_eq (by omega), c_any (s := s) (p := fun i => anB (d 7) f V s i ^^ yB V s i) nr (fun r hr hb => by rw [c_an hn hf hV hr hb, c_yB hn hV hr hb]) (fun r hr hb => by rw [c_an0 hb]; unfold yB; rw [hb]; simp)]
  · rw [lwR_2 h0, lwR_2 hz, c_bc hn hf hV]
    -- without the last row
    have s'b : ∀ i, i < 32 → bt (s &&& (hoE s ^^^ (-1))) i = (bt s i && !decide (i = t)) := fun i hi => by rw [b_and, b_not _ hi, th, b_pw t (by omega) i hi]
    have pc' : ∀ m, m ≤ nr → pcN (s &&& (hoE s ^^^ (-1))) m = pcN s m - (if t < m then 1 else 0) := by
      intro m
      induction m with
      | zero => intro _; rfl
      | succ m ih =>
        intro hm
        rw [pcN, pcN, ih (by omega), s'b m (by omega)]
        by_cases e : m = t
        · subst e
          rw [if_neg (by omega), if_pos (by omega), tb]; simp [b2n]
        · by_cases e2 : t < m
          · rw [if_pos e2, if_pos (by omega), ta m e2]
            have := pcN_lt e2 tb
            simp [b2n]
          · rw [if_neg e2, if_neg (by omega)]; simp [e]
    have hw : pcN (s &&& (hoE s ^^^ (-1))) nr + 1 = pcN s nr := by
      rw [pc' nr (Nat.le_refl _), if_pos tn]
      have := pcN_lt tn tb
      omega
    have lo : ∀ r, r < nr → bt (s &&& (hoE s ^^^ (-1))) r = true → r < t ∧ bt s r = true := fun r hr hb => by
      rw [s'b r (by omega)] at hb
      simp only [Bool.and_eq_true, Bool.not_eq_true', decide_eq_false_iff_not] at hb
      refine ⟨?_, hb.1⟩
      rcases Nat.lt_or_ge r t with q | q
      · exact q
      · rw [ta r (by omega)] at hb; exact absurd hb.1 (by decide)
    have f2 : cpF (s &&& (hoE s ^^^ (-1))) nr f f' := fun r hr hb k hk => by
      obtain ⟨l1, l2⟩ := lo r hr hb
      rw [pc' r (by omega), if_neg (by omega), Nat.sub_zero]; exact hf r hr l2 k hk
    have v2 : cpV (s &&& (hoE s ^^^ (-1))) nr V V' := fun r hr hb => by
      obtain ⟨l1, l2⟩ := lo r hr hb
      rw [pc' r (by omega), if_neg (by omega), Nat.sub_zero]; exact hV r hr l2
    have := c_bc (d := d) hn f2 v2
    have k12 : pcN (s &&& (hoE s ^^^ (-1))) nr < 12 := by omega
    generalize pcN (s &&& (hoE s ^^^ (-1))) nr = k at hw this k12
    rw [← hw]
    have al : alm (k + 1) &&& (hoE (alm (k + 1)) ^^^ (-1)) = alm k := b_ext fun i hi => by
      rw [ho_alm k k12, b_and, b_not _ hi, b_alm (by omega) hi, b_alm (by omega) hi, b_pw k (by omega) i hi, Bool.eq_iff_iff]
      simp only [Bool.and_eq_true, Bool.not_eq_true', decide_eq_true_eq, decide_eq_false_iff_not]
      omega
    have an : anM d f' (k + 1) V' (alm k) = anM d f' k V' (alm k) := b_ext fun i hi => by
      unfold anM
      rw [b_mB _ _ (by omega) i hi, b_mB _ _ (by omega) i hi]
      by_cases e : i < k
      · simp [e, show i < k + 1 by omega]
      · by_cases e2 : i = k
        · subst e2
          unfold anB yB
          rw [b_alm (by omega) (by omega)]; simp
        · simp [e, show ¬ i < k + 1 by omega]
    rw [al, an, this]
  · rw [lwR_3 h0, lwR_3 hz, c_eq hn hf hV (hV.map (fun v => vB (d 2) v v))]
  · rw [lwR_4 h0, lwR_4 hz, c_eq hn hf hV (hV.map (fun v => vT (d 0) (vT (d 0) v)))]
  · rw [lwR_5 h0, lwR_5 hz]
    congr 1
    refine all3_ext (fun k hk => ?_)
    have tt : ∀ {W W' : Nat → Nat}, cpV s nr W W' → toF f' (anM d f' (pcN s nr) W' (alm (pcN s nr))) k (pcN s nr) = toF f (anM d f nr W s) k nr := fun hW => c_tot hk nr (fun r hr hb => ⟨c_bt hn hf hW hr hb, hf r hr hb k hk⟩) (fun r hr hb => c_bt0 hn hr hb)
    have ts : toF f' (alm (pcN s nr)) k (pcN s nr) = toF f s k nr := c_tot hk nr (fun r hr hb => ⟨by rw [b_alm (by omega) (by have := pcN_lt hr hb; omega), hb]; simp; exact pcN_lt hr hb, hf r hr hb k hk⟩) (fun r hr hb => hb)
    rw [tt hV, tt (hV.map (fun v => vT (d 0) v)), tt (hV.map (fun v => vQ (cmp && d 5) v)), ts]
  · rw [lwR_6 h0, lwR_6 hz]
    congr 1
    refine all3_ext (fun k hk => ?_)
    have tt : ∀ {W W' : Nat → Nat}, cpV s nr W W' → kuF f' (anM d f' (pcN s nr) W' (alm (pcN s nr))) k (pcN s nr) = kuF f (anM d f nr W s) k nr := fun hW => c_kin hk nr (fun r hr hb => ⟨c_bt hn hf hW hr hb, hf r hr hb k hk⟩) (fun r hr hb => c_bt0 hn hr hb)
    rw [tt hV, tt (hV.map (fun v => vE (d 3) v (vQ (cmp && d 5) v))), tt (hV.map (fun v => vB (d 2) v (vQ false (vT (d 0) v))))]
end CP
