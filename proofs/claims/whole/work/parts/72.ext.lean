/-! what judging looks at, and no more -/
theorem tv_eq {f f' : Nat → Int32} {r r' : Nat} {τ : Int32} (h : ∀ c, c < 3 → f' (r' * 3 + c) = f (r * 3 + c)) (ht : tmOk τ) : tv f' r' τ = tv f r τ := by
  unfold tv
  by_cases h20 : 20 ≤ τ
  · rw [if_pos h20, if_pos h20]
    rcases ht with q | q | q
    · subst q; exact absurd h20 (by decide)
    · exfalso
      have := q.2
      rw [Int32.le_iff_toInt_le] at this h20
      rw [show (20 : Int32).toInt = 20 from rfl] at h20
      rw [show (9 : Int32).toInt = 9 from rfl] at this
      omega
    · obtain ⟨j, h1, h2, rfl⟩ := i_rng (a := 20) (b := 22) (by omega) q.1 (by have := q.2; rw [Int32.lt_iff_toInt_lt] at this; rw [Int32.le_iff_toInt_le]; rw [show (23 : Int32).toInt = 23 from rfl] at this; rw [show (nI 22).toInt = 22 from rfl]; omega) (by omega)
      rw [i_cl (by omega)]
      exact h (j - 20) (by omega)
  · rw [if_neg h20, if_neg h20]
def sOk (s : pT) : Prop := 0 < s.1 ∧ s.1 ≤ 40 ∧ WFG (sG s) s.1 ∧ ∀ k, k < s.1 → isCm (sG s k) → tmOk (sL s k) ∧ tmOk (sR s k)
theorem pI.ok {s : pT} {len : Nat} (hI : pI s len) (hl : len ≤ 40) (hw : pwB s = true) : sOk s := by
  refine ⟨s_pos hI hw, ?_⟩
  have hw := pwB_iff.mp hw
  have hW := pI_wf hI hw
  obtain ⟨ac, ot, om, mi, sk, G, L, R⟩ := s
  obtain ⟨a1, a2, a3, a4, a5, a6, a7, a8, a9, a10⟩ := hI
  obtain ⟨w1, w2, w3⟩ := hw
  dsimp only at w1 w2 w3
  refine ⟨by show ac ≤ 40; omega, hW, fun k hk hc => ⟨?_, ?_⟩⟩
  · rcases a9 k hk hc with q | q
    · omega
    · exact q
  · rcases a10 k hk hc with q | q
    · omega
    · exact q
theorem tI.ok {h : aH} {x : Nat} {s : pT} (hT : tI h x s) : sOk s := by
  obtain ⟨B, len, -, b, c, d, -⟩ := hT
  exact b.ok c d
theorem s_row {s : pT} {f f' : Nat → Int32} {r r' : Nat} (hs : sOk s) (h : ∀ c, c < 3 → f' (r' * 3 + c) = f (r * 3 + c)) : sgEq s.1 (sG s) (sL s) (sR s) f r 0 (sG s) (sL s) (sR s) f' r' 0 :=
  ⟨fun _ _ => rfl, fun j hj hc => ⟨rfl, rfl, tv_eq h ((hs.2.2.2 _ (by omega) hc).1), tv_eq h ((hs.2.2.2 _ (by omega) hc).2)⟩⟩
theorem evS_row {s : pT} {f f' : Nat → Int32} {r r' k : Nat} {d : Nat → Bool} (hs : sOk s) (h : ∀ c, c < 3 → f' (r' * 3 + c) = f (r * 3 + c)) (hk : k < s.1) : evS s f' d r' k = evS s f d r k := by
  have hW := hs.2.2.1
  have := ev_seg (d := d) hW hW (s_row hs h) (by omega) (by omega) (s.1 - k) k (Nat.le_refl _) hk (by rw [Nat.zero_add]; exact (sz_wf hW _ k (Nat.le_refl _) hk).2.1)
  rw [Nat.zero_add] at this
  exact this.2
theorem FRs_row {s : pT} {f f' : Nat → Int32} {r r' k i : Nat} {d : Nat → Bool} (hs : sOk s) (h : ∀ c, c < 3 → f' (r' * 3 + c) = f (r * 3 + c)) (hk : k < s.1) : FR (sG s) s.1 (sL s) (sR s) f' r' (fun j => evS s f' d r' j) k i ↔ FR (sG s) s.1 (sL s) (sR s) f r (fun j => evS s f d r j) k i := by
  have hW := hs.2.2.1
  have := FR_seg (d := d) (i := i) hW hW (s_row hs h) (by omega) (by omega) hk (by rw [Nat.zero_add]; exact (sz_wf hW _ k (Nat.le_refl _) hk).2.1)
  rw [Nat.zero_add] at this
  exact this
section EX
variable {f f' : Nat → Int32} {nr : Nat} {V V' : Nat → Nat} {d : Nat → Bool} {s : Int32}
theorem anM_ext (hf : ∀ q, q < nr * 3 → f' q = f q) (hV : ∀ r, r < nr → V' r = V r) : anM d f' nr V' s = anM d f nr V s := by
  unfold anM
  refine mB_ext fun r hr => ?_
  unfold anB rpB
  rw [anyB_ext (q := fun o => yB V s o && sameB f o r) (fun o ho => ?_)]
  · unfold yB; rw [hV r hr]
  · unfold yB; rw [hV o (by omega), sameB_upd (by omega) hr hf]
theorem enc_ex (hV : ∀ r, r < nr → V' r = V r) (hn : nr ≤ 16) : enc nr V' = enc nr V := by
  refine enc_ext fun i hi => ⟨?_, ?_⟩
  · rw [e_y _ _ hi]
    by_cases hr : i < nr
    · rw [hV i hr]
    · simp [hr]
  · rw [e_n _ _ hi]
    by_cases hr : i < nr
    · rw [hV i hr]
    · simp [hr]
theorem toF_ext {c : Nat} (hc : c < 3) : ∀ {m : Nat}, (∀ q, q < m * 3 → f' q = f q) → toF f' s c m = toF f s c m
  | 0, _ => rfl
  | m + 1, h => by rw [toF, toF, toF_ext hc (fun q hq => h q (by omega)), h (m * 3 + c) (by omega)]
theorem kuF_ext {c : Nat} (hc : c < 3) : ∀ {m : Nat}, (∀ q, q < m * 3 → f' q = f q) → kuF f' s c m = kuF f s c m
  | 0, _ => rfl
  | m + 1, h => by rw [kuF, kuF, kuF_ext hc (fun q hq => h q (by omega)), h (m * 3 + c) (by omega)]
theorem all3_ext {p q : Nat → Bool} (h : ∀ c, c < 3 → p c = q c) : all3 p = all3 q := by
  unfold all3; rw [h 0 (by omega), h 1 (by omega), h 2 (by omega)]
theorem lwR_ext {law : Nat} {cmp : Bool} (hn : nr ≤ 16) (hf : ∀ q, q < nr * 3 → f' q = f q) (hV : ∀ r, r < nr → V' r = V r) : lwR law d f' nr V' s cmp = lwR law d f nr V s cmp := by
  have a0 : ∀ {s : Int32}, anM d f' nr V' s = anM d f nr V s := anM_ext hf hV
  have a1 : ∀ (g : Nat → Nat), anM d f' nr (fun r => g (V' r)) s = anM d f nr (fun r => g (V r)) s := fun g => anM_ext hf (fun r hr => by rw [hV r hr])
  unfold lwR
  rw [a0, a0, a1 (fun v => vT (d 0) v), a1 (fun v => vQ (cmp && d 5) v), enc_ex hV hn, a1 (fun v => vB (d 2) v v), a1 (fun v => vT (d 0) (vT (d 0) v)), a1 (fun v => vE (d 3) v (vQ (cmp && d 5) v)), a1 (fun v => vB (d 2) v (vQ false (vT (d 0) v)))]
  rw [all3_ext (q := fun c => toF f (anM d f nr V s) c nr + toF f (anM d f nr (fun r => vT (d 0) (V r)) s) c nr + toF f (anM d f nr (fun r => vQ (cmp && d 5) (V r)) s) c nr == toF f s c nr) (fun c hc => by rw [toF_ext hc hf, toF_ext hc hf, toF_ext hc hf, toF_ext hc hf])]
  rw [all3_ext (p := fun c => decide (bcE (kuF f' (anM d f nr V s) c nr) ≤ bcE (kuF f' (anM d f nr (fun r => vE (d 3) (V r) (vQ (cmp && d 5) (V r))) s) c nr)) && decide (bcE (kuF f' (anM d f nr (fun r => vB (d 2) (V r) (vQ false (vT (d 0) (V r)))) s) c nr) ≤ bcE (kuF f' (anM d f nr V s) c nr))) (q := fun c => decide (bcE (kuF f (anM d f nr V s) c nr) ≤ bcE (kuF f (anM d f nr (fun r => vE (d 3) (V r) (vQ (cmp && d 5) (V r))) s) c nr)) && decide (bcE (kuF f (anM d f nr (fun r => vB (d 2) (V r) (vQ false (vT (d 0) (V r)))) s) c nr) ≤ bcE (kuF f (anM d f nr V s) c nr))) (fun c hc => by rw [kuF_ext hc hf, kuF_ext hc hf, kuF_ext hc hf])]
end EX
noncomputable def bkS (s : pT) (f : Nat → Int32) (nr law : Nat) (dn : Int32) (k : Nat) (sm : Int32) : Bool := bkE law (bt dn) (sG s) s.1 (sL s) (sR s) f nr k sm
theorem bkS_ext {s : pT} {f f' : Nat → Int32} {nr law k : Nat} {dn sm : Int32} (hs : sOk s) (hn : nr ≤ 16) (hf : ∀ q, q < nr * 3 → f' q = f q) (hk : k < s.1) : bkS s f' nr law dn k sm = bkS s f nr law dn k sm := by
  unfold bkS bkE
  exact lwR_ext hn hf (fun r hr => evS_row (d := bt dn) hs (fun c hc => hf _ (by omega)) hk)
theorem bkM_eq {M : MS} {s : pT} {law k : Nat} {dn sm : Int32} : bkM M s law dn k sm = bkS s M.f M.nr law dn k sm := rfl
-- two readers that have read the same
theorem bkS_pR {s s' : pT} {len : Nat} (hI : pI s len) (hw : pw s) (hR : pR s s') {f : Nat → Int32} {nr law k : Nat} {dn sm : Int32} (hk : k < s.1) : bkS s' f nr law dn k sm = bkS s f nr law dn k sm := by
  obtain ⟨e, hW, hW', hE⟩ := pR_sg hI hw hR f 0
  have hG := hE.1 k hk
  rw [Nat.zero_add] at hG
  unfold bkS bkE
  rw [hG]
  congr 1
  funext r
  exact (evS_pR (d := bt dn) hI hw hR hk).2
theorem whM_pR {s s' : pT} {len : Nat} (hI : pI s len) (hw : pw s) (hR : pR s s') (hp : 0 < s.1) {M : MS} {dn : Int32} : whM M s' dn = whM M s dn := by
  unfold whM
  congr 1
  funext r
  exact (evS_pR hI hw hR hp).2
theorem meM_pR {s s' : pT} {len : Nat} (hI : pI s len) (hw : pw s) (hR : pR s s') (hp : 0 < s.1) {M : MS} : meM M s' = meM M s := by
  unfold meM
  congr 2
  funext r
  exact (evS_pR hI hw hR hp).2
theorem fiM_pR {s s' : pT} {len : Nat} (hI : pI s len) (hw : pw s) (hR : pR s s') (hp : 0 < s.1) {M : MS} : fiM M s' = fiM M s := by
  obtain ⟨e, hW, hW', hE⟩ := pR_sg hI hw hR M.f 0
  have hV : (fun r => evS s' M.f (bt (M.ru &&& M.fa)) r 0) = (fun r => evS s M.f (bt (M.ru &&& M.fa)) r 0) := funext fun r => (evS_pR hI hw hR hp).2
  unfold fiM
  refine mB_ext fun i hi => ?_
  congr 1
  rw [Bool.eq_iff_iff, prB_iff, prB_iff]
  unfold fiP
  rw [hV, e]
  constructor
  · rintro (⟨k, hk, r, hr, q⟩ | q)
    · exact Or.inl ⟨k, hk, r, hr, (FRs_pR hI hw hR hk).mp q⟩
    · exact Or.inr q
  · rintro (⟨k, hk, r, hr, q⟩ | q)
    · exact Or.inl ⟨k, hk, r, hr, (FRs_pR hI hw hR hk).mpr q⟩
    · exact Or.inr q
theorem pR_fold : ∀ (o : List Int32) {s s' : pT} {p : Nat}, pI s p → pR s s' → pI (pfold s p o) (p + o.length) ∧ pR (pfold s p o) (pfold s' p o)
  | [], s, s', p, h1, h2 => ⟨h1, h2⟩
  | b :: o, s, s', p, h1, h2 => by
    have := pR_fold o (pI_step (b := b) h1) (pR_step (b := b) h1 h2)
    rw [Nat.add_assoc, Nat.add_comm 1] at this
    exact this
theorem pR_z (G L R G' L' R' : Nat → Int32) : pR (pz G L R) (pz G' L' R') := ⟨rfl, rfl, rfl, rfl, rfl, fun k hk => absurd hk (by omega), fun k hk => absurd hk (by omega), fun k hk => absurd hk (by omega)⟩
