/-! what the walk says is so of the machine -/
theorem aV_cat (b : Nat) (sa : Nat → Nat) (v : Value) : (aV b sa v).category = v.category := by cases v <;> rfl
theorem mem_lsA {f : Value → Value} {q : Nat × Value} : ∀ {i : Nat} {ls : List (Option Value)}, q ∈ lsA f i ls ↔ ∃ m v, ls[m]? = some (some v) ∧ q = (i + m, f v)
  | i, [] => by simp [lsA]
  | i, none :: r => by
    rw [lsA, mem_lsA (i := i + 1)]
    constructor
    · rintro ⟨m, v, h1, h2⟩
      exact ⟨m + 1, v, by simpa using h1, by rw [h2]; congr 1; omega⟩
    · rintro ⟨m, v, h1, h2⟩
      cases m with
      | zero => simp at h1
      | succ m => exact ⟨m, v, by simpa using h1, by rw [h2]; congr 1; omega⟩
  | i, some w :: r => by
    rw [lsA, List.mem_cons, mem_lsA (i := i + 1)]
    constructor
    · rintro (h | ⟨m, v, h1, h2⟩)
      · exact ⟨0, w, rfl, h⟩
      · exact ⟨m + 1, v, by simpa using h1, by rw [h2]; congr 1; omega⟩
    · rintro ⟨m, v, h1, h2⟩
      cases m with
      | zero => left; simp at h1; rw [h2, h1]; rfl
      | succ m => right; exact ⟨m, v, by simpa using h1, by rw [h2]; congr 1; omega⟩
theorem lsA_get {f : Value → Value} {ls : List (Option Value)} {la : Array Slot} {N i : Nat} {v : Value} (h : lv_has la N (lsA f 0 ls)) (hi : ls[i]? = some (some v)) : la[i]? = some (.val (f v)) := by
  have h1 := h.2.2 (i, f v) (mem_lsA.mpr ⟨i, v, hi, by simp⟩)
  exact h1
theorem lv_has.mono {la : Array Slot} {N : Nat} {l l' : List (Nat × Value)} (h : lv_has la N l) (hs : ∀ q ∈ l', q ∈ l) : lv_has la N l' := ⟨h.1, h.2.1, fun q hq => h.2.2 q (hs q hq)⟩
theorem okS_cat {ls : List (Option Value)} {i m : Nat} {v : Value} (h : okS ls i = true) (hm : ls[m]? = some (some v)) (he : m + 1 = i) : v.category = 1 := by
  subst he
  simp only [okS, hm] at h
  simpa using h
theorem lsA_st1 {b : Nat} {sa : Nat → Nat} {ls : List (Option Value)} {la : Array Slot} {N i : Nat} {v : Value} (hk : okS ls i = true)
    (h : lv_has la N ((i, aV b sa v) :: (lsA (aV b sa) 0 ls).filter (fun q => !(q.1 == i) && !(q.1 + 1 == i && q.2.category == 2)))) : lv_has la N (lsA (aV b sa) 0 (ls.set i (some v))) := by
  refine h.mono fun q hq => ?_
  obtain ⟨m, w, h1, h2⟩ := mem_lsA.mp hq
  rw [Nat.zero_add] at h2
  subst h2
  by_cases hm : m = i
  · subst hm
    rw [List.getElem?_set_self'] at h1
    cases hls : ls[m]? with
    | none => rw [hls] at h1; simp at h1
    | some o => rw [hls] at h1; simp at h1; subst h1; exact List.mem_cons_self
  · rw [List.getElem?_set_ne (Ne.symm hm)] at h1
    refine List.mem_cons_of_mem _ (List.mem_filter.mpr ⟨mem_lsA.mpr ⟨m, w, h1, by simp⟩, ?_⟩)
    simp only [aV_cat]
    by_cases he : m + 1 = i
    · rw [okS_cat hk h1 he]; simp [hm]
    · simp [hm, he]
theorem lsA_st2 {b : Nat} {sa : Nat → Nat} {ls : List (Option Value)} {la : Array Slot} {N i : Nat} {v : Value} (hk : okS ls i = true)
    (h : lv_has la N ((i, aV b sa v) :: (lsA (aV b sa) 0 ls).filter (fun q => !(q.1 == i) && (!(q.1 == i + 1) && !(q.1 + 1 == i && q.2.category == 2))))) : lv_has la N (lsA (aV b sa) 0 ((ls.set i (some v)).set (i + 1) none)) := by
  refine h.mono fun q hq => ?_
  obtain ⟨m, w, h1, h2⟩ := mem_lsA.mp hq
  rw [Nat.zero_add] at h2
  subst h2
  by_cases hm1 : m = i + 1
  · subst hm1
    rw [List.getElem?_set_self'] at h1
    cases hls : (ls.set i (some v))[i + 1]? with
    | none => rw [hls] at h1; simp at h1
    | some o => rw [hls] at h1; simp at h1
  · rw [List.getElem?_set_ne (Ne.symm hm1)] at h1
    by_cases hm : m = i
    · subst hm
      rw [List.getElem?_set_self'] at h1
      cases hls : ls[m]? with
      | none => rw [hls] at h1; simp at h1
      | some o => rw [hls] at h1; simp at h1; subst h1; exact List.mem_cons_self
    · rw [List.getElem?_set_ne (Ne.symm hm)] at h1
      refine List.mem_cons_of_mem _ (List.mem_filter.mpr ⟨mem_lsA.mpr ⟨m, w, h1, by simp⟩, ?_⟩)
      simp only [aV_cat]
      by_cases he : m + 1 = i
      · rw [okS_cat hk h1 he]; simp [hm, hm1]
      · simp [hm, hm1, he]
/-! the heap -/
theorem Rep.P1 {b : Nat} {sa : Nat → Nat} {cs : aCS} {D : va_G} {n : Nat} {h : aH} {H : Heap} (hR : Rep b sa cs D n h H) {a : Nat} {c : aC} (ha : h a = some c) : va_P D vwCl [(b + a, aE b sa cs c)] H := by
  intro k q hq
  cases k with
  | zero => simp at hq; subst hq; exact hR.2 a c ha
  | succ k => simp at hq
theorem Rep.upd {b : Nat} {sa : Nat → Nat} {cs : aCS} {D : va_G} {n : Nat} {h : aH} {H H1 : Heap} (hR : Rep b sa cs D n h H) {a : Nat} {c : aC} (hz : H1.size = H.size) (ho : ∀ q : Nat, q ≠ b + a → H1[q]? = H[q]?) (hc : va_at D vwCl (b + a, aE b sa cs c) H1) : Rep b sa cs D n (hset h a c) H1 := by
  refine ⟨by rw [hz]; exact hR.1, fun k d hk => ?_⟩
  by_cases he : k = a
  · subst he
    simp [hset] at hk
    subst hk
    exact hc
  · simp [hset, he] at hk
    exact (hR.2 k d hk).kept (ho _ (by omega))
theorem Rep.push {b : Nat} {sa : Nat → Nat} {cs : aCS} {D : va_G} {n : Nat} {h : aH} {H H1 : Heap} (hR : Rep b sa cs D n h H) {c : aC} (hz : H1.size = H.size + 1) (ho : ∀ q : Nat, q < H.size → H1[q]? = H[q]?) (hc : va_at D vwCl (b + n, aE b sa cs c) H1) : Rep b sa cs D (n + 1) (hset h n c) H1 := by
  refine ⟨by rw [hz, hR.1]; omega, fun k d hk => ?_⟩
  by_cases he : k = n
  · subst he
    simp [hset] at hk
    subst hk
    exact hc
  · simp [hset, he] at hk
    have h1 := hR.2 k d hk
    exact h1.kept (ho _ h1.lt)
theorem va_S.same {A : Nat → Prop} {H0 H H1 : Heap} {locs : List Loc} {a k : Nat} (h : va_S A H0 H locs) (z : H1.size = H.size) (oq : ∀ q : Nat, q ≠ a → H1[q]? = H[q]?) (ha : A a) : va_S A H0 H1 (locs ++ [⟨a, k⟩]) := h.put z oq ha
theorem va_S.grow {b : Nat} {H0 H H1 : Heap} {locs : List Loc} (h : va_S (fun q => b ≤ q) H0 H locs) (z : H1.size = H.size + 1) (oq : ∀ q : Nat, q < H.size → H1[q]? = H[q]?) : va_S (fun q => b ≤ q) H0 H1 locs := ⟨Nat.le_trans h.1 (by omega), fun x h1 h2 => (oq x (Nat.lt_of_lt_of_le h1 h.1)).trans (h.2.1 x h1 h2), h.2.2⟩
theorem clsW : ∀ (ci : Nat) (q : vw_C), vwCl[ci]? = some q → (∀ w ∈ u_ws q.1 q.2.1 q.2.2, w ∈ tblG) := by
  intro ci q hq
  have h0 : ∀ q ∈ vwCl, (u_ws q.1 q.2.1 q.2.2).all (fun w => decide (w ∈ lw_tbl) && goodWord w) = true := by decide +kernel
  intro w hw
  have h1 := List.all_eq_true.mp (h0 q (List.mem_of_getElem? hq)) w hw
  simp only [Bool.and_eq_true, decide_eq_true_eq] at h1
  exact List.mem_filter.mpr h1
theorem clsT : ∀ (ci : Nat) (q : vw_C), vwCl[ci]? = some q → ∀ k, k < q.2.2 → parseFieldDescriptor (q.2.1 k).2.2.1 = some (tyT ci k) := by
  intro ci q hq
  match ci, hq with
  | 0, hq => cases hq; exact tyX0_ok
  | 1, hq => cases hq; exact tyX1_ok
  | 2, hq => cases hq; exact tyX2_ok
  | 3, hq => cases hq; exact tyX3_ok
  | 4, hq => cases hq; exact tyX4_ok
  | 5, hq => cases hq; exact tyX5_ok
  | 6, hq => cases hq; exact tyX6_ok
  | 7, hq => cases hq; exact tyX7_ok
  | 8, hq => cases hq; exact tyX8_ok
  | 9, hq => cases hq; exact tyX9_ok
  | 10, hq => cases hq; exact tyX10_ok
  | 11, hq => cases hq; exact tyX11_ok
  | k + 12, hq => simp at hq
theorem clsN : ∀ (ci : Nat) (q : vw_C), vwCl[ci]? = some q → ∀ a, a < q.2.2 → ∀ b, b < q.2.2 → a ≠ b → (q.2.1 a).2.1 ≠ (q.2.1 b).2.1 := by
  intro ci q hq
  match ci, hq with
  | 0, hq => cases hq; exact nmX0
  | 1, hq => cases hq; exact nmX1
  | 2, hq => cases hq; exact nmX2
  | 3, hq => cases hq; exact nmX3
  | 4, hq => cases hq; exact nmX4
  | 5, hq => cases hq; exact nmX5
  | 6, hq => cases hq; exact nmX6
  | 7, hq => cases hq; exact nmX7
  | 8, hq => cases hq; exact nmX8
  | 9, hq => cases hq; exact nmX9
  | 10, hq => cases hq; exact nmX10
  | 11, hq => cases hq; exact nmX11
  | k + 12, hq => simp at hq
