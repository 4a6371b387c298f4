/-! a test, and the same test at another place -/
theorem sz_cm {G : Nat → Int32} {ac k : Nat} (h : k < ac) (hc : isCm (G k)) : sz G ac k = 1 := by
  rw [sz_rec h, if_neg (fun q => cm_ntw hc (twB_iff.mp q))]
  unfold s1
  rw [if_pos (cmB_iff.mpr hc)]
theorem sz_on {G : Nat → Int32} {ac k : Nat} (h : k < ac) (hc : isOn (G k)) : sz G ac k = 1 + sz G ac (k + 1) := by
  rw [sz_rec h, if_neg (fun q => on_ntw hc (twB_iff.mp q))]
  unfold s1
  rw [if_neg (fun q => on_ncm hc (cmB_iff.mp q)), Nat.add_zero]
theorem sz_tw {G : Nat → Int32} {ac k : Nat} (h : k < ac) (hc : isTw (G k)) : sz G ac k = 1 + sz G ac (k + 1) + sz G ac (k + 1 + sz G ac (k + 1)) := by
  rw [sz_rec h, if_pos (twB_iff.mpr hc)]
  unfold s1
  rw [if_neg (fun q => tw_ncm hc (cmB_iff.mp q)), Nat.add_assoc k 1]
def sgEq (n : Nat) (G : Nat → Int32) (L R f : Nat → Int32) (r o : Nat) (G' L' R' f' : Nat → Int32) (r' o' : Nat) : Prop := (∀ j, j < n → G' (o' + j) = G (o + j)) ∧ (∀ j, j < n → isCm (G (o + j)) → L' (o' + j) = L (o + j) ∧ R' (o' + j) = R (o + j) ∧ tv f' r' (L (o + j)) = tv f r (L (o + j)) ∧ tv f' r' (R (o + j)) = tv f r (R (o + j)))
theorem ev_seg {d : Nat → Bool} {G L R f G' L' R' f' : Nat → Int32} {ac ac' r r' o o' n : Nat} (hW : WFG G ac) (hW' : WFG G' ac') (hE : sgEq n G L R f r o G' L' R' f' r' o') (ho : o + n ≤ ac) (ho' : o' + n ≤ ac') : ∀ m j, n - j ≤ m → j < n → j + sz G ac (o + j) ≤ n → sz G' ac' (o' + j) = sz G ac (o + j) ∧ ev d G' ac' L' R' f' r' (o' + j) = ev d G ac L R f r (o + j) := by
  obtain ⟨hG, hL⟩ := hE
  intro m
  induction m with
  | zero => intro j h1 h2; omega
  | succ m ih =>
    intro j h1 h2 h3
    have hk : o + j < ac := by omega
    have hk' : o' + j < ac' := by omega
    have hg := hG j h2
    rw [ev_rec hW hk, ev_rec hW' hk']
    unfold evA
    rw [hg]
    rcases (hW.1 _ hk).1 with hc | hc | hc
    · rw [sz_cm hk hc, sz_cm hk' (by rw [hg]; exact hc)]
      obtain ⟨l1, l2, l3, l4⟩ := hL j h2 hc
      refine ⟨rfl, ?_⟩
      rw [if_pos (cmB_iff.mpr hc), if_pos (cmB_iff.mpr hc), l1, l2, l3, l4]
    · have hc' : isTw (G' (o' + j)) := by rw [hg]; exact hc
      have hz := sz_tw hk hc
      have hb := wf_bi hW hk hc
      have p1 := (sz_wf hW _ (o + j + 1) (Nat.le_refl _) hb.1).1
      have p2 := (sz_wf hW _ _ (Nat.le_refl _) hb.2).1
      obtain ⟨i1, i2⟩ := ih (j + 1) (by omega) (by rw [hz] at h3; omega) (by rw [hz] at h3; rw [← Nat.add_assoc]; omega)
      have e1 : o + (j + 1 + sz G ac (o + j + 1)) = o + j + 1 + sz G ac (o + j + 1) := by omega
      have e1' : o' + (j + 1 + sz G ac (o + j + 1)) = o' + j + 1 + sz G ac (o + j + 1) := by omega
      obtain ⟨j1, j2⟩ := ih (j + 1 + sz G ac (o + j + 1)) (by omega) (by rw [hz] at h3; omega) (by rw [e1]; rw [hz] at h3; omega)
      rw [← Nat.add_assoc, ← Nat.add_assoc] at i1 i2
      rw [e1, e1'] at j1 j2
      refine ⟨by rw [hz, sz_tw hk' hc', i1, j1], ?_⟩
      have n1 : ¬ cmB (G (o + j)) = true := fun q => tw_ncm hc (cmB_iff.mp q)
      have n2 : ¬ G (o + j) = 33 := fun q => on_ntw (Or.inl q) hc
      have n3 : ¬ G (o + j) = 63 := fun q => on_ntw (Or.inr q) hc
      rw [if_neg n1, if_neg n1, if_neg n2, if_neg n2, if_neg n3, if_neg n3, i1, i2, j2]
    · have hc' : isOn (G' (o' + j)) := by rw [hg]; exact hc
      have hz := sz_on hk hc
      have hb := wf_un hW hk (on_ncm hc)
      have p1 := (sz_wf hW _ (o + j + 1) (Nat.le_refl _) hb).1
      obtain ⟨i1, i2⟩ := ih (j + 1) (by omega) (by rw [hz] at h3; omega) (by rw [hz] at h3; rw [← Nat.add_assoc]; omega)
      have hg1 := hG (j + 1) (by rw [hz] at h3; omega)
      rw [← Nat.add_assoc, ← Nat.add_assoc] at i1 i2 hg1
      refine ⟨by rw [hz, sz_on hk' hc', i1], ?_⟩
      have n1 : ¬ cmB (G (o + j)) = true := fun q => on_ncm hc (cmB_iff.mp q)
      rw [if_neg n1, if_neg n1, i2, hg1]
      rcases hc with q | q
      · rw [if_pos q, if_pos q]
      · have n33 : ¬ G (o + j) = 33 := by rw [q]; decide
        simp only [if_neg n33, if_pos q]
-- where rules fire
theorem FR_seg {d : Nat → Bool} {G L R f G' L' R' f' : Nat → Int32} {ac ac' r r' o o' n i : Nat} (hW : WFG G ac) (hW' : WFG G' ac') (hE : sgEq n G L R f r o G' L' R' f' r' o') (ho : o + n ≤ ac) (ho' : o' + n ≤ ac') {j : Nat} (hj : j < n) (hs : j + sz G ac (o + j) ≤ n) : FR G' ac' L' R' f' r' (ev d G' ac' L' R' f' r') (o' + j) i ↔ FR G ac L R f r (ev d G ac L R f r) (o + j) i := by
  have hS := ev_seg (d := d) hW hW' hE ho ho'
  obtain ⟨hG, hL⟩ := hE
  have hk : o + j < ac := by omega
  have hg := hG j hj
  unfold FR
  rw [hg]
  rcases (hW.1 _ hk).1 with hc | hc | hc
  · obtain ⟨l1, l2, l3, l4⟩ := hL j hj hc
    rw [l1, l2, l3, l4]
    have n1 : ¬ G (o + j) = 33 := fun q => on_ncm (Or.inl q) hc
    have n2 : ¬ G (o + j) = 63 := fun q => on_ncm (Or.inr q) hc
    have n3 : ¬ G (o + j) = 38 := fun q => cm_ntw hc (Or.inl q)
    have n4 : ¬ G (o + j) = 124 := fun q => cm_ntw hc (Or.inr q)
    simp only [n1, n2, n3, n4, false_and, and_false, or_false]
  · have hz := sz_tw hk hc
    have hb := wf_bi hW hk hc
    have n0 : ¬ cmB (G (o + j)) = true := fun q => tw_ncm hc (cmB_iff.mp q)
    have n1 : ¬ G (o + j) = 33 := fun q => on_ntw (Or.inl q) hc
    have n2 : ¬ G (o + j) = 63 := fun q => on_ntw (Or.inr q) hc
    have p1 := (sz_wf hW _ (o + j + 1) (Nat.le_refl _) hb.1).1
    have p2 := (sz_wf hW _ _ (Nat.le_refl _) hb.2).1
    obtain ⟨i1, i2⟩ := hS _ (j + 1) (Nat.le_refl _) (by omega) (by rw [← Nat.add_assoc]; omega)
    have e1 : o + (j + 1 + sz G ac (o + j + 1)) = o + j + 1 + sz G ac (o + j + 1) := by omega
    have e1' : o' + (j + 1 + sz G ac (o + j + 1)) = o' + j + 1 + sz G ac (o + j + 1) := by omega
    obtain ⟨j1, j2⟩ := hS _ (j + 1 + sz G ac (o + j + 1)) (Nat.le_refl _) (by omega) (by rw [e1]; omega)
    rw [← Nat.add_assoc, ← Nat.add_assoc] at i1 i2
    rw [e1, e1'] at j2
    rw [i1, i2, j2]
    simp only [n0, n1, n2, false_and, and_false, false_or, Bool.false_eq_true]
  · have hz := sz_on hk hc
    have hb := wf_un hW hk (on_ncm hc)
    have n0 : ¬ cmB (G (o + j)) = true := fun q => on_ncm hc (cmB_iff.mp q)
    have n3 : ¬ G (o + j) = 38 := fun q => on_ntw hc (Or.inl q)
    have n4 : ¬ G (o + j) = 124 := fun q => on_ntw hc (Or.inr q)
    have p1 := (sz_wf hW _ (o + j + 1) (Nat.le_refl _) hb).1
    obtain ⟨i1, i2⟩ := hS _ (j + 1) (Nat.le_refl _) (by omega) (by rw [← Nat.add_assoc]; omega)
    have hg1 := hG (j + 1) (by omega)
    rw [← Nat.add_assoc, ← Nat.add_assoc] at i1 i2 hg1
    rw [i2, hg1]
    simp only [n0, n3, n4, false_and, and_false, false_or, or_false, Bool.false_eq_true]
theorem WFG_ext {G G' : Nat → Int32} {ac : Nat} (hW : WFG G ac) (h : ∀ k, k < ac → G' k = G k) : WFG G' ac := by
  refine ⟨fun k hk => ?_, by rw [nd_ext h]; exact hW.2⟩
  rw [h k hk, nd_ext (fun j hj => h j (by omega))]
  exact hW.1 k hk
-- two readers that have read the same
theorem pR_sg {s s' : pT} {len : Nat} (hI : pI s len) (hw : pw s) (hR : pR s s') (f : Nat → Int32) (r : Nat) : s'.1 = s.1 ∧ WFG (sG s) s.1 ∧ WFG (sG s') s.1 ∧ sgEq s.1 (sG s) (sL s) (sR s) f r 0 (sG s') (sL s') (sR s') f r 0 := by
  have hW := pI_wf hI hw
  obtain ⟨ac, ot, om, mi, sk, G, L, R⟩ := s
  obtain ⟨ac', ot', om', mi', sk', G', L', R'⟩ := s'
  obtain ⟨rfl, rfl, rfl, rfl, rfl, hG, hL, hR⟩ := hR
  have hom : om = 0 := hw.2.2
  refine ⟨rfl, hW, WFG_ext hW (fun k hk => (hG k hk).symm), fun j hj => ?_, fun j hj hc => ?_⟩
  · show G' (0 + j) = G (0 + j)
    rw [Nat.zero_add]; exact (hG j hj).symm
  · have hc : isCm (G (0 + j)) := hc
    show L' (0 + j) = L (0 + j) ∧ R' (0 + j) = R (0 + j) ∧ _
    rw [Nat.zero_add] at hc ⊢
    refine ⟨?_, ?_, rfl, rfl⟩
    · rcases hL j hj hc with q | q
      · omega
      · exact q.symm
    · rcases hR j hj hc with q | q
      · omega
      · exact q.symm
theorem evS_pR {s s' : pT} {len : Nat} (hI : pI s len) (hw : pw s) (hR : pR s s') {f : Nat → Int32} {d : Nat → Bool} {r k : Nat} (hk : k < s.1) : sz (sG s') s.1 k = sz (sG s) s.1 k ∧ evS s' f d r k = evS s f d r k := by
  obtain ⟨e, hW, hW', hE⟩ := pR_sg hI hw hR f r
  have := ev_seg (d := d) hW hW' hE (by omega) (by omega) (s.1 - k) k (Nat.le_refl _) hk (by rw [Nat.zero_add]; exact (sz_wf hW _ k (Nat.le_refl _) hk).2.1)
  rw [Nat.zero_add] at this
  refine ⟨this.1, ?_⟩
  unfold evS
  rw [e]; exact this.2
theorem FRs_pR {s s' : pT} {len : Nat} (hI : pI s len) (hw : pw s) (hR : pR s s') {f : Nat → Int32} {d : Nat → Bool} {r k i : Nat} (hk : k < s.1) : FR (sG s') s.1 (sL s') (sR s') f r (fun j => evS s' f d r j) k i ↔ FR (sG s) s.1 (sL s) (sR s) f r (fun j => evS s f d r j) k i := by
  obtain ⟨e, hW, hW', hE⟩ := pR_sg hI hw hR f r
  have := FR_seg (d := d) (i := i) hW hW' hE (by omega) (by omega) hk (by rw [Nat.zero_add]; exact (sz_wf hW _ k (Nat.le_refl _) hk).2.1)
  rw [Nat.zero_add] at this
  unfold evS
  rw [e]
  exact this
