/-! tests that are laid out of tests -/
theorem nd_seg {G : Nat → Int32} {ac : Nat} (hW : WFG G ac) : ∀ m k, ac - k ≤ m → k < ac → ∀ j, j < sz G ac k → nd G k ≤ nd G (k + j) := by
  intro m
  induction m with
  | zero => intro k h1 h2; omega
  | succ m ih =>
    intro k h1 h2 j hj
    by_cases j0 : j = 0
    · subst j0; exact Int.le_refl _
    have hnd : nd G (k + 1) = nd G k + dl (G k) := rfl
    rcases (hW.1 k h2).1 with hc | hc | hc
    · rw [sz_cm h2 hc] at hj; omega
    · have b := wf_bi hW h2 hc
      have w1 := sz_wf hW _ (k + 1) (Nat.le_refl _) b.1
      rw [sz_tw h2 hc] at hj
      rw [dl_tw hc] at hnd
      by_cases j1 : j < 1 + sz G ac (k + 1)
      · have := ih (k + 1) (by omega) b.1 (j - 1) (by omega)
        rw [show k + 1 + (j - 1) = k + j by omega] at this
        omega
      · have := ih _ (by omega) b.2 (j - (1 + sz G ac (k + 1))) (by omega)
        rw [show k + 1 + sz G ac (k + 1) + (j - (1 + sz G ac (k + 1))) = k + j by omega] at this
        omega
    · have b := wf_un hW h2 (on_ncm hc)
      rw [sz_on h2 hc] at hj
      rw [dl_on hc] at hnd
      have := ih (k + 1) (by omega) b (j - 1) (by omega)
      rw [show k + 1 + (j - 1) = k + j by omega] at this
      omega
def spl (G : Nat → Int32) (k : Nat) (F : Nat → Int32) (o z j : Nat) : Int32 := if k ≤ j ∧ j < k + z then F (o + (j - k)) else G j
theorem spl_in {G F : Nat → Int32} {k o z j : Nat} (h : j < z) : spl G k F o z (k + j) = F (o + j) := by
  unfold spl; rw [if_pos (by omega), show k + j - k = j by omega]
theorem spl_lo {G F : Nat → Int32} {k o z j : Nat} (h : j < k) : spl G k F o z j = G j := by
  unfold spl; rw [if_neg (by omega)]
theorem spl_hi {G F : Nat → Int32} {k o z j : Nat} (h : k + z ≤ j) : spl G k F o z j = G j := by
  unfold spl; rw [if_neg (by omega)]
theorem nd_spl {G F : Nat → Int32} {k o z : Nat} : ∀ j, j ≤ z → nd (spl G k F o z) (k + j) = nd G k + (nd F (o + j) - nd F o)
  | 0, _ => by rw [Nat.add_zero, Nat.add_zero, nd_ext (G := G) (fun i hi => spl_lo hi)]; omega
  | j + 1, h => by
    rw [← Nat.add_assoc, nd, nd_spl j (by omega), spl_in (by omega), ← Nat.add_assoc, nd]; omega
-- a test under way: as many acts, and so many tests still wanted
def bI (G : Nat → Int32) (k w : Nat) : Prop := sgOk G k ∧ nd G k = (w : Int)
theorem bI_0 (G : Nat → Int32) : bI G 0 1 := ⟨fun k hk => absurd hk (by omega), rfl⟩
theorem bI_on {G : Nat → Int32} {k w : Nat} {g : Int32} (h : bI G k (w + 1)) (hg : isOn g) : bI (upd G k g) (k + 1) (w + 1) := by
  refine ⟨sgOk_add h.1 (by rw [h.2]; omega) (Or.inr (Or.inr hg)), ?_⟩
  rw [nd_add, h.2, dl_on hg]; omega
theorem bI_tw {G : Nat → Int32} {k w : Nat} {g : Int32} (h : bI G k (w + 1)) (hg : isTw g) : bI (upd G k g) (k + 1) (w + 2) := by
  refine ⟨sgOk_add h.1 (by rw [h.2]; omega) (Or.inr (Or.inl hg)), ?_⟩
  rw [nd_add, h.2, dl_tw hg]; omega
theorem bI_seg {G F : Nat → Int32} {k w ac o : Nat} (h : bI G k (w + 1)) (hW : WFG F ac) (ho : o < ac) : bI (spl G k F o (sz F ac o)) (k + sz F ac o) w := by
  have hs := sz_wf hW _ o (Nat.le_refl _) ho
  refine ⟨fun j hj => ?_, ?_⟩
  · by_cases e : j < k
    · rw [spl_lo e, nd_ext (fun i hi => spl_lo (by omega))]; exact h.1 j e
    · obtain ⟨i, rfl⟩ : ∃ i, j = k + i := ⟨j - k, by omega⟩
      rw [spl_in (by omega), nd_spl i (by omega), h.2]
      have := nd_seg hW _ o (Nat.le_refl _) ho i (by omega)
      exact ⟨(hW.1 _ (by omega)).1, by omega⟩
  · rw [nd_spl _ (Nat.le_refl _), hs.2.2, h.2]; omega
theorem bI.wf {G : Nat → Int32} {k : Nat} (h : bI G k 0) : WFG G k := ⟨h.1, h.2⟩
-- what each way of laying out makes of a test
def evL (how : Nat) (d : Nat → Bool) (cm : Bool) (V : Nat) : Nat := match how with
  | 0 => V
  | 1 => vT (d 0) V
  | 2 => vQ (cm && d 5) V
  | 3 => vB (d 2) V V
  | 4 => vT (d 0) (vT (d 0) V)
  | 5 => vE (d 3) V (vQ (cm && d 5) V)
  | _ => vB (d 2) V (vQ false (vT (d 0) V))
section LY
variable {F FL FR' : Nat → Int32} {ac o : Nat}
-- a test of another lies from a place on
def sgA (G L R : Nat → Int32) (F FL FR' : Nat → Int32) (p o z : Nat) : Prop := ∀ j, j < z → G (p + j) = F (o + j) ∧ (isCm (F (o + j)) → L (p + j) = FL (o + j) ∧ R (p + j) = FR' (o + j))
theorem sgA.ev {G L R f : Nat → Int32} {d : Nat → Bool} {N p r : Nat} (hW : WFG F ac) (hW' : WFG G N) (ho : o < ac) (h : sgA G L R F FL FR' p o (sz F ac o)) (hp : p + sz F ac o ≤ N) : sz G N p = sz F ac o ∧ ev d G N L R f r p = ev d F ac FL FR' f r o := by
  have hs := sz_wf hW _ o (Nat.le_refl _) ho
  have := ev_seg (d := d) (o := o) (o' := p) (n := sz F ac o) (f := f) (f' := f) (r := r) (r' := r) (L := FL) (R := FR') (L' := L) (R' := R) hW hW' ⟨fun j hj => (h j hj).1, fun j hj hc => ⟨((h j hj).2 hc).1, ((h j hj).2 hc).2, rfl, rfl⟩⟩ hs.2.1 hp (sz F ac o) 0 (by omega) (by omega) (by rw [Nat.add_zero, Nat.zero_add]; exact Nat.le_refl _)
  rw [Nat.add_zero, Nat.add_zero] at this
  exact this
theorem sgA.mk (G L R : Nat → Int32) (p z : Nat) : sgA (spl G p F o z) (spl L p FL o z) (spl R p FR' o z) F FL FR' p o z := fun j hj => ⟨spl_in hj, fun _ => ⟨spl_in hj, spl_in hj⟩⟩
theorem sgA.up {G L R : Nat → Int32} {p z k : Nat} {g : Int32} (h : sgA G L R F FL FR' p o z) (hk : p + z ≤ k) : sgA (upd G k g) L R F FL FR' p o z := fun j hj => by rw [pk_un (by omega)]; exact h j hj
theorem sgA.sp {G L R : Nat → Int32} {p z k z2 : Nat} (h : sgA G L R F FL FR' p o z) (hk : p + z ≤ k) : sgA (spl G k F o z2) (spl L k FL o z2) (spl R k FR' o z2) F FL FR' p o z := fun j hj => by rw [spl_lo (by omega), spl_lo (by omega), spl_lo (by omega)]; exact h j hj
end LY
