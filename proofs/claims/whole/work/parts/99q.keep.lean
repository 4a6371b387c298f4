/-! what stays true of the state -/
theorem M0_ok : MOk M0 := by
  refine ⟨by show (0 : Nat) ≤ 8; omega, fun q hq => absurd (show q < 0 * 3 from hq) (by omega), fun t ht => by show (0 : Nat) ≤ 40; omega, fun t ht => pI_0 _ _ _, fun t ht => pR_rf _, fun i hi => ?_, fun i hi => b_0 i, fun a ha i hi => b_0 i, fun a ha => b_0 a, fun a b _ _ => by show bt 0 b = bt 0 a; rw [b_0, b_0], fun s hs => by show (0 : Nat) ≤ 48; omega, fun s hs => by show (-1 : Int32) ≤ -1 ∧ (-1 : Int32) < 4; decide, fun s i hs hi => absurd (show i < 0 from hi) (by omega)⟩
  show bt 255 i = false
  rw [b_255]; simp; omega
section KP
variable {M : MS}
theorem fdM_ok (ok : MOk M) (k : Int32) : MOk (fdM M k) := ⟨ok.nr, ok.cv, ok.ln, ok.pi, ok.pr, ok.ru, ok.fa, ok.p8, ok.pn, ok.ps, ok.sz, ok.fm, ok.it⟩
theorem stRow_ok (ok : MOk M) (x y w : Int32) : MOk (stRow M x y w).2 := by
  unfold stRow
  split
  · rename_i h
    split
    · rename_i h8; exact apM_ok ok h.1 h.2.1 h.2.2 h8
    · exact ok
  · exact ok
theorem rdF_ok (s : Nat) : ∀ m i (M : MS), MOk M → MOk (rdF s m i M).2
  | 0, i, M, ok => ok
  | m + 1, i, M, ok => by
    rw [rdF]
    split
    · rename_i h
      exact rdF_ok s m (i + 1) _ (apM_ok ok (okL_t h.2.1) (okL_t h.2.2.1) (okL_t h.2.2.2.1) h.2.2.2.2)
    · exact ok
theorem stRead_ok (ok : MOk M) (x : Int32) : MOk (stRead M x).2 := by
  unfold stRead
  split
  · split
    · exact fdM_ok ok _
    · exact rdF_ok _ _ _ _ ok
  · exact ok
theorem stPut_ok (ok : MOk M) (r d v : Int32) : MOk (stPut M r d v).2 := by
  unfold stPut
  split
  · rename_i hv
    dsimp only
    split
    · refine ⟨ok.nr, fun q hq => ?_, ok.ln, ok.pi, ok.pr, ok.ru, ok.fa, ok.p8, ok.pn, ok.ps, ok.sz, ok.fm, ok.it⟩
      show okV (upd M.f _ v q)
      by_cases e : q = r.toNatClampNeg * 3 + d.toNatClampNeg
      · rw [e, pk_us]; exact hv
      · rw [pk_un e]; exact ok.cv q hq
    · exact ok
  · exact ok
theorem empty_ok (ok : MOk M) : MOk (mkM M.f 0 M.B M.s M.len M.P M.ru M.fa M.fd M.I M.fm M.sz) := ⟨by show (0 : Nat) ≤ 8; omega, fun q hq => absurd (show q < 0 * 3 from hq) (by omega), ok.ln, ok.pi, ok.pr, ok.ru, ok.fa, ok.p8, ok.pn, ok.ps, ok.sz, ok.fm, ok.it⟩
theorem txM_ok (ok : MOk M) {t len : Nat} {B : Nat → Int32} {s : pT} (hl : len ≤ 40) (hI : pI s len) (hR : pR s (pS B len)) : MOk (txM M t B s len) := by
  refine ⟨ok.nr, ok.cv, fun t' ht => ?_, fun t' ht => ?_, fun t' ht => ?_, ok.ru, ok.fa, ok.p8, ok.pn, ok.ps, ok.sz, ok.fm, ok.it⟩
  · show fset M.len t len t' ≤ 40
    by_cases e : t' = t
    · subst e; rw [fset_s]; exact hl
    · rw [fset_n _ _ e]; exact ok.ln t' ht
  · show pI (fset M.s t s t') (fset M.len t len t')
    by_cases e : t' = t
    · subst e; rw [fset_s, fset_s]; exact hI
    · rw [fset_n _ _ e, fset_n _ _ e]; exact ok.pi t' ht
  · show pR (fset M.s t s t') (pS (fset M.B t B t') (fset M.len t len t'))
    by_cases e : t' = t
    · subst e; rw [fset_s, fset_s, fset_s]; exact hR
    · rw [fset_n _ _ e, fset_n _ _ e, fset_n _ _ e]; exact ok.pr t' ht
theorem stType_ok (ok : MOk M) (x b : Int32) : MOk (stType M x b).2 := by
  unfold stType
  split
  · rename_i h
    obtain ⟨t, ht, e⟩ := i_of (n := 2) (by omega) (i_nlt.mpr h.1.1) h.1.2
    rw [e, i_cl (by omega)]
    split
    · rename_i h40
      refine txM_ok ok (by omega) (pI_step (ok.pi t ht)) ?_
      rw [pS, pk_us, pS_ext (B := M.B t) _ (fun i hi => pk_un (by omega))]
      exact pR_step (ok.pi t ht) (ok.pr t ht)
    · exact ok
  · exact ok
theorem stWipe_ok (ok : MOk M) (x : Int32) : MOk (stWipe M x).2 := by
  unfold stWipe
  split
  · exact txM_ok ok (by omega) (pI_0 _ _ _) (pR_z _ _ _ _ _ _)
  · exact ok
theorem b255 {b : Int32} (h : 0 ≤ b ∧ b ≤ 255) : ∀ i, 8 ≤ i → bt b i = false := fun i hi => by
  obtain ⟨j, -, hj, rfl⟩ := i_rng (a := 0) (b := 255) (by omega) h.1 h.2 (by omega)
  rcases Nat.lt_or_ge i 32 with h32 | h32
  · rw [bt_nI _ h32]; exact Nat.testBit_lt_two_pow (Nat.lt_of_lt_of_le (show j < 2 ^ 8 by omega) (Nat.pow_le_pow_right (by omega) hi))
  · exact b_big h32
theorem stSet_ok (ok : MOk M) (x b : Int32) : MOk (stSet M x b).2 := by
  unfold stSet
  split
  · rename_i h
    split
    · exact ⟨ok.nr, ok.cv, ok.ln, ok.pi, ok.pr, b255 h.2, ok.fa, ok.p8, ok.pn, ok.ps, ok.sz, ok.fm, ok.it⟩
    · exact ⟨ok.nr, ok.cv, ok.ln, ok.pi, ok.pr, ok.ru, b255 h.2, ok.p8, ok.pn, ok.ps, ok.sz, ok.fm, ok.it⟩
  · exact ok
theorem stGrow_ok (ok : MOk M) (seed r : Int32) : MOk (stGrow M seed r).2 := by
  unfold stGrow
  split
  · rename_i hr
    obtain ⟨j, h1, h9, rfl⟩ := i_rng (a := 1) (b := 9) (by omega) hr.1 hr.2 (by omega)
    rw [i_cl (by omega)]
    have g := grB_ok (fun _ => 0) (fun _ => 0) (fun _ => 0) seed h1 h9
    have f := pR_fold (grB seed j) (pI_0 (sG (M.s 1)) (sL (M.s 1)) (sR (M.s 1))) (pR_z (sG (M.s 1)) (sL (M.s 1)) (sR (M.s 1)) (fun _ => 0) (fun _ => 0) (fun _ => 0))
    rw [Nat.zero_add] at f
    refine txM_ok ok (by omega) f.1 ?_
    rw [pS_wr]; exact f.2
  · exact ok
theorem stLearn_ok (ok : MOk M) (x : Int32) : MOk (stLearn M x).2 := by
  unfold stLearn
  split
  · split
    · have k := ke_sy (x := fiM M (M.s x.toNatClampNeg)) ok.sy (fiM_8 ok _)
      exact ⟨ok.nr, ok.cv, ok.ln, ok.pi, ok.pr, ok.ru, ok.fa, k.1, k.2.1, k.2.2, ok.sz, ok.fm, ok.it⟩
    · exact ok
  · exact ok
theorem nwF_nwF (f : Int32) (v : Int64) : nwF f (nwF f v) = nwF f v := by
  unfold nwF
  by_cases h0 : f = 0
  · simp [h0]
  · by_cases h1 : f = 1
    · simp [h1]
    · by_cases h2 : f = 2
      · simp [h2]
      · simp [h0, h1, h2]
theorem shM_ok (ok : MOk M) {t k : Nat} {I : Nat → Int64} {f : Int32} (hk : k ≤ 48) (hf : -1 ≤ f ∧ f < 4) (hI : ∀ i, i < k → nwF f (I i) = I i) : MOk (shM M t I f k) := by
  refine ⟨ok.nr, ok.cv, ok.ln, ok.pi, ok.pr, ok.ru, ok.fa, ok.p8, ok.pn, ok.ps, fun s hs => ?_, fun s hs => ?_, fun s i hs hi => ?_⟩
  · show fset M.sz t k s ≤ 48
    by_cases e : s = t
    · subst e; rw [fset_s]; exact hk
    · rw [fset_n _ _ e]; exact ok.sz s hs
  · show -1 ≤ fset M.fm t f s ∧ fset M.fm t f s < 4
    by_cases e : s = t
    · subst e; rw [fset_s]; exact hf
    · rw [fset_n _ _ e]; exact ok.fm s hs
  · have hi : i < fset M.sz t k s := hi
    show nwF (fset M.fm t f s) (fset M.I t I s i) = fset M.I t I s i
    by_cases e : s = t
    · subst e; rw [fset_s] at hi; rw [fset_s, fset_s]; exact hI i hi
    · rw [fset_n _ _ e] at hi; rw [fset_n _ _ e, fset_n _ _ e]; exact ok.it s i hs hi
theorem nwF_0 (f : Int32) : nwF f 0 = 0 := by
  unfold nwF
  split
  · decide
  split
  · decide
  split
  · decide
  · rfl
theorem m1_le {f : Int32} (h : 0 ≤ f) : -1 ≤ f := by
  rw [Int32.le_iff_toInt_le] at h ⊢
  rw [show (0 : Int32).toInt = 0 from rfl] at h
  rw [show (-1 : Int32).toInt = -1 from rfl]; omega
theorem stSheet_ok (ok : MOk M) (x f k : Int32) : MOk (stSheet M x f k).2 := by
  unfold stSheet
  split
  · rename_i h
    split
    · exact fdM_ok ok _
    · rename_i h0
      obtain ⟨j, hj, rfl⟩ := nI_of h0
      have hj48 : j ≤ 48 := (i_le (b := 48) (by omega) (by omega)).mp h.2.2
      rw [i_cl (by omega)]
      refine shM_ok ok hj48 ⟨m1_le h.2.1.1, h.2.1.2⟩ (fun i hi => ?_)
      unfold zrI
      rw [if_pos (by omega)]; exact nwF_0 f
  · exact ok
theorem stLose_ok (ok : MOk M) (x : Int32) : MOk (stLose M x).2 := by
  unfold stLose
  split
  · split
    · exact fdM_ok ok _
    · exact shM_ok ok (by omega) (by decide) (fun i hi => absurd hi (by omega))
  · exact ok
theorem stLay_ok (ok : MOk M) (x f i : Int32) (v : Int64) : MOk (stLay M x f i v).2 := by
  unfold stLay
  split
  · rename_i h
    obtain ⟨t, ht, e⟩ := i_of (n := 4) (by omega) (i_nlt.mpr h.1.1) h.1.2
    rw [e, i_cl (by omega)]
    split
    · rename_i hi
      obtain ⟨e1, e2, e3, e4⟩ := it0 hi
      refine shM_ok ok (ok.sz t ht) ⟨m1_le h.2.1, h.2.2⟩ (fun k hk => ?_)
      by_cases ek : k = i.toNatClampNeg
      · rw [ek, pk_uLs, nwF_nwF]
      · rw [pk_uLn ek, ← e2]; exact ok.it t k ht hk
    · exact fdM_ok ok _
  · exact ok
theorem stGet_ok (ok : MOk M) (x f i : Int32) : MOk (stGet M x f i).2 := by
  unfold stGet
  split
  · split
    · exact ok
    · exact fdM_ok ok _
  · exact ok
theorem stCopy_ok (ok : MOk M) (x i y j k : Int32) : MOk (stCopy M x i y j k).2 := by
  unfold stCopy
  split
  · rename_i h
    obtain ⟨s, hs, e⟩ := i_of (n := 4) (by omega) (i_nlt.mpr h.1.1) h.1.2
    obtain ⟨t, ht, e'⟩ := i_of (n := 4) (by omega) (i_nlt.mpr h.2.1) h.2.2
    rw [e, e', i_cl (by omega), i_cl (by omega)]
    split
    · exact fdM_ok ok _
    · split
      · split
        · refine shM_ok ok (ok.sz t ht) (ok.fm t ht) (fun q hq => ?_)
          unfold tkF
          split
          · exact nwF_nwF _ _
          · exact ok.it t q ht hq
        · exact fdM_ok ok _
      · exact fdM_ok ok _
  · exact ok
theorem stWrite_ok (ok : MOk M) (x : Int32) : MOk (stWrite M x).2 := by
  unfold stWrite
  split
  · rename_i h
    obtain ⟨t, ht, e⟩ := i_of (n := 4) (by omega) (i_nlt.mpr h.1) h.2
    rw [e, i_cl (by omega)]
    split
    · exact fdM_ok ok _
    · refine shM_ok ok (ok.sz t ht) (ok.fm t ht) (fun q hq => ?_)
      unfold wrI
      split
      · exact nwF_nwF _ _
      · exact ok.it t q ht hq
  · exact ok
end KP
