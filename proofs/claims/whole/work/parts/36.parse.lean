/-! tests as texts: the reader, byte by byte, and the sizes of what is read -/
def isCm (g : Int32) : Prop := g = 60 ∨ g = 61 ∨ g = 62
def isTw (g : Int32) : Prop := g = 38 ∨ g = 124
def isOn (g : Int32) : Prop := g = 33 ∨ g = 63
noncomputable def cmB (g : Int32) : Bool := g == 60 || g == 61 || g == 62
noncomputable def twB (g : Int32) : Bool := g == 38 || g == 124
theorem cmB_iff {g : Int32} : cmB g = true ↔ isCm g := by simp [cmB, isCm, or_assoc]
theorem twB_iff {g : Int32} : twB g = true ↔ isTw g := by simp [twB, isTw]
theorem cm_ntw {g : Int32} (h : isCm g) : ¬ isTw g := by
  rcases h with rfl | rfl | rfl <;> unfold isTw <;> decide
theorem on_ncm {g : Int32} (h : isOn g) : ¬ isCm g := by
  rcases h with rfl | rfl <;> unfold isCm <;> decide
theorem on_ntw {g : Int32} (h : isOn g) : ¬ isTw g := by
  rcases h with rfl | rfl <;> unfold isTw <;> decide
theorem tw_ncm {g : Int32} (h : isTw g) : ¬ isCm g := by
  rcases h with rfl | rfl <;> unfold isCm <;> decide
noncomputable def dl (g : Int32) : Int := if twB g = true then 1 else if cmB g = true then -1 else 0
noncomputable def nd (G : Nat → Int32) : Nat → Int
  | 0 => 1
  | k + 1 => nd G k + dl (G k)
def sgOk (G : Nat → Int32) (ac : Nat) : Prop := ∀ k, k < ac → (isCm (G k) ∨ isTw (G k) ∨ isOn (G k)) ∧ 1 ≤ nd G k
def WFG (G : Nat → Int32) (ac : Nat) : Prop := sgOk G ac ∧ nd G ac = 0
theorem nd_ext {G G' : Nat → Int32} : ∀ {n : Nat}, (∀ k, k < n → G' k = G k) → nd G' n = nd G n
  | 0, _ => rfl
  | n + 1, h => by rw [nd, nd, nd_ext (n := n) (fun k hk => h k (by omega)), h n (by omega)]
noncomputable def szF (G : Nat → Int32) (ac : Nat) : Nat → Nat → Nat
  | 0, _ => 0
  | f + 1, k => if k < ac then (1 + (if cmB (G k) = true then 0 else szF G ac f (k + 1))) + (if twB (G k) = true then szF G ac f (k + (1 + (if cmB (G k) = true then 0 else szF G ac f (k + 1)))) else 0) else 0
noncomputable def sz (G : Nat → Int32) (ac k : Nat) : Nat := szF G ac (ac - k) k
theorem szF_out {G : Nat → Int32} {ac : Nat} : ∀ {f k : Nat}, ac ≤ k → szF G ac f k = 0
  | 0, _, _ => rfl
  | f + 1, k, h => by rw [szF, if_neg (by omega)]
theorem szF_ind {G : Nat → Int32} {ac : Nat} : ∀ m f f' k, ac - k ≤ m → m ≤ f → m ≤ f' → szF G ac f k = szF G ac f' k
  | 0, f, f', k, h, _, _ => by rw [szF_out (by omega), szF_out (by omega)]
  | m + 1, f, f', k, h, h1, h2 => by
    obtain ⟨a, rfl⟩ : ∃ a, f = a + 1 := ⟨f - 1, by omega⟩
    obtain ⟨b, rfl⟩ : ∃ b, f' = b + 1 := ⟨f' - 1, by omega⟩
    have e : ∀ j, k < j → szF G ac a j = szF G ac b j := fun j hj => szF_ind m a b j (by omega) (by omega) (by omega)
    rw [szF, szF, e (k + 1) (by omega), e (k + _) (by omega)]
theorem sz_out {G : Nat → Int32} {ac k : Nat} (h : ac ≤ k) : sz G ac k = 0 := szF_out h
-- how far the first test in an act goes
noncomputable def s1 (G : Nat → Int32) (ac k : Nat) : Nat := 1 + (if cmB (G k) = true then 0 else sz G ac (k + 1))
theorem sz_rec {G : Nat → Int32} {ac k : Nat} (h : k < ac) : sz G ac k = s1 G ac k + (if twB (G k) = true then sz G ac (k + s1 G ac k) else 0) := by
  have e : ∀ j, k < j → szF G ac (ac - k - 1) j = sz G ac j := fun j hj => szF_ind (ac - j) _ _ j (Nat.le_refl _) (by omega) (Nat.le_refl _)
  unfold s1
  rw [sz, show ac - k = (ac - k - 1) + 1 by omega, szF, if_pos h, e (k + 1) (by omega), e (k + _) (by omega)]
theorem s1_pos {G : Nat → Int32} {ac k : Nat} : 1 ≤ s1 G ac k := by unfold s1; omega
theorem sz_wf {G : Nat → Int32} {ac : Nat} (hW : WFG G ac) : ∀ m k, ac - k ≤ m → k < ac → 1 ≤ sz G ac k ∧ k + sz G ac k ≤ ac ∧ nd G (k + sz G ac k) = nd G k - 1 := by
  intro m
  induction m with
  | zero => intro k h1 h2; omega
  | succ m ih =>
    intro k h1 h2
    have hz := sz_rec (G := G) h2
    have hp : 1 ≤ sz G ac k := by rw [hz]; have := s1_pos (G := G) (ac := ac) (k := k); omega
    obtain ⟨hs, hn⟩ := hW.1 k h2
    have hnd : nd G (k + 1) = nd G k + dl (G k) := rfl
    have hend : ∀ j, j ≤ ac → 1 ≤ nd G j → j < ac := fun j hj h => by
      rcases Nat.lt_or_ge j ac with h9 | h9
      · exact h9
      · have : j = ac := by omega
        subst this; rw [hW.2] at h; omega
    rcases hs with hc | hc | hc
    · have e1 : cmB (G k) = true := cmB_iff.mpr hc
      have e2 : ¬ twB (G k) = true := fun q => cm_ntw hc (twB_iff.mp q)
      have hs1 : s1 G ac k = 1 := by unfold s1; rw [if_pos e1]
      have hd : dl (G k) = -1 := by unfold dl; rw [if_neg e2, if_pos e1]
      rw [hs1, if_neg e2] at hz
      rw [hz]
      exact ⟨by omega, by omega, by show nd G (k + 1) = _; rw [hnd, hd]; omega⟩
    · have e1 : ¬ cmB (G k) = true := fun q => tw_ncm hc (cmB_iff.mp q)
      have e2 : twB (G k) = true := twB_iff.mpr hc
      have hd : dl (G k) = 1 := by unfold dl; rw [if_pos e2]
      have hk1 : k + 1 < ac := hend _ (by omega) (by rw [hnd, hd]; omega)
      have hs1 : s1 G ac k = 1 + sz G ac (k + 1) := by unfold s1; rw [if_neg e1]
      obtain ⟨a1, a2, a3⟩ := ih (k + 1) (by omega) hk1
      rw [hs1, if_pos e2] at hz
      have hk2 : k + (1 + sz G ac (k + 1)) < ac := hend _ (by omega) (by rw [show k + (1 + sz G ac (k + 1)) = k + 1 + sz G ac (k + 1) by omega, a3, hnd, hd]; omega)
      obtain ⟨b1, b2, b3⟩ := ih _ (by omega) hk2
      rw [hz]
      refine ⟨by omega, by omega, ?_⟩
      rw [show k + (1 + sz G ac (k + 1) + sz G ac (k + (1 + sz G ac (k + 1)))) = k + (1 + sz G ac (k + 1)) + sz G ac (k + (1 + sz G ac (k + 1))) by omega, b3, show k + (1 + sz G ac (k + 1)) = k + 1 + sz G ac (k + 1) by omega, a3, hnd, hd]
      omega
    · have e1 : ¬ cmB (G k) = true := fun q => on_ncm hc (cmB_iff.mp q)
      have e2 : ¬ twB (G k) = true := fun q => on_ntw hc (twB_iff.mp q)
      have hd : dl (G k) = 0 := by unfold dl; rw [if_neg e2, if_neg e1]
      have hk1 : k + 1 < ac := hend _ (by omega) (by rw [hnd, hd]; omega)
      have hs1 : s1 G ac k = 1 + sz G ac (k + 1) := by unfold s1; rw [if_neg e1]
      obtain ⟨a1, a2, a3⟩ := ih (k + 1) (by omega) hk1
      rw [hs1, if_neg e2] at hz
      rw [hz]
      refine ⟨by omega, by omega, ?_⟩
      rw [show k + (1 + sz G ac (k + 1) + 0) = k + 1 + sz G ac (k + 1) by omega, a3, hnd, hd]
      omega
-- what a well formed test's act needs of those behind it
theorem wf_un {G : Nat → Int32} {ac k : Nat} (hW : WFG G ac) (hk : k < ac) (hc : ¬ isCm (G k)) : k + 1 < ac := by
  obtain ⟨hs, hn⟩ := hW.1 k hk
  have hnd : nd G (k + 1) = nd G k + dl (G k) := rfl
  have hd : 0 ≤ dl (G k) := by
    unfold dl
    split
    · omega
    · rw [if_neg (fun q => hc (cmB_iff.mp q))]; omega
  rcases Nat.lt_or_ge (k + 1) ac with h9 | h9
  · exact h9
  · have : k + 1 = ac := by omega
    rw [this, hW.2] at hnd; omega
theorem wf_bi {G : Nat → Int32} {ac k : Nat} (hW : WFG G ac) (hk : k < ac) (hc : isTw (G k)) : k + 1 < ac ∧ k + 1 + sz G ac (k + 1) < ac := by
  have h1 := wf_un hW hk (tw_ncm hc)
  obtain ⟨a1, a2, a3⟩ := sz_wf hW _ (k + 1) (Nat.le_refl _) h1
  refine ⟨h1, ?_⟩
  obtain ⟨hs, hn⟩ := hW.1 k hk
  have hnd : nd G (k + 1) = nd G k + dl (G k) := rfl
  have hd : dl (G k) = 1 := by unfold dl; rw [if_pos (twB_iff.mpr hc)]
  rcases Nat.lt_or_ge (k + 1 + sz G ac (k + 1)) ac with h9 | h9
  · exact h9
  · have : k + 1 + sz G ac (k + 1) = ac := by omega
    rw [this, hW.2] at a3; omega
/-! the reader -/
abbrev pT : Type := Nat × Nat × Nat × Nat × Int32 × (Nat → Int32) × (Nat → Int32) × (Nat → Int32)
def tmO (mi : Nat) (b : Int32) : Int32 := if 48 ≤ b ∧ b ≤ 57 then (if mi = 1 then 48 - b else b - 48) else if mi = 1 then 1000 else if 97 ≤ b ∧ b ≤ 99 then 20 + (b - 97) else if b = 110 then -100 else 1000
def pstep (s : pT) (p : Nat) (b : Int32) : pT := match s with
  | (ac, ot, om, mi, sk, G, L, R) =>
    if ¬ sk = -1 then (ac, ot, om, mi, sk, G, L, R)
    else if 0 < om then
      if b = 45 ∧ mi = 0 then (ac, ot, om, 1, sk, G, L, R)
      else if tmO mi b = 1000 then (ac, ot, om, mi, nI p, G, L, R)
      else if om = 2 then (ac, ot, 1, 0, sk, G, upd L (ac - 1) (tmO mi b), R)
      else (ac, ot, 0, 0, sk, G, L, upd R (ac - 1) (tmO mi b))
    else if ot = 0 then (ac, ot, om, mi, nI p, G, L, R)
    else if b = 38 ∨ b = 124 then (ac + 1, ot + 1, 0, mi, sk, upd G ac b, L, R)
    else if b = 33 ∨ b = 63 then (ac + 1, ot, 0, mi, sk, upd G ac b, L, R)
    else if b = 60 ∨ b = 61 ∨ b = 62 then (ac + 1, ot - 1, 2, mi, sk, upd G ac b, L, R)
    else (ac, ot, om, mi, nI p, G, L, R)
