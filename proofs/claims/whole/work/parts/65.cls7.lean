
/-! GrownAsks: what judges -/
def sG (s : pT) : Nat → Int32 := s.2.2.2.2.2.1
def sL (s : pT) : Nat → Int32 := s.2.2.2.2.2.2.1
def sR (s : pT) : Nat → Int32 := s.2.2.2.2.2.2.2
noncomputable def evS (s : pT) (f : Nat → Int32) (d : Nat → Bool) (r k : Nat) : Nat := ev d (sG s) s.1 (sL s) (sR s) f r k
noncomputable def prB (p : Prop) : Bool := @decide p (Classical.propDecidable p)
theorem prB_iff {p : Prop} : prB p = true ↔ p := by unfold prB; exact @decide_eq_true_iff p (Classical.propDecidable p)
theorem s_txOk {h : aH} {x : Nat} {B : Nat → Int32} {s : pT} {len : Nat} (hX : TxI h x B s len) (hI : pI s len) (hl : len ≤ 40) (hw : pwB s = true) : ∃ S, TxW h x (sG s) S (sL s) (sR s) s.1 ∧ txOk (sG s) S (sL s) (sR s) s.1 := by
  obtain ⟨S, hx, hz⟩ := hX
  have hw := pwB_iff.mp hw
  have hW := pI_wf hI hw
  have hz := hz hw
  obtain ⟨ac, ot, om, mi, sk, G, L, R⟩ := s
  obtain ⟨a1, a2, a3, a4, a5, a6, a7, a8, a9, a10⟩ := hI
  obtain ⟨w1, w2, w3⟩ := hw
  dsimp only at w1 w2 w3
  refine ⟨S, ⟨B, _, _, _, _, _, hx⟩, by show ac ≤ 40; omega, hW, hz, fun k hk hc => ⟨?_, ?_⟩⟩
  · rcases a9 k hk hc with q | q
    · omega
    · exact q
  · rcases a10 k hk hc with q | q
    · omega
    · exact q
theorem s_pos {s : pT} {len : Nat} (hI : pI s len) (hw : pwB s = true) : 0 < s.1 := by
  have hW := pI_wf hI (pwB_iff.mp hw)
  rcases Nat.eq_zero_or_pos s.1 with e | e
  · have := hW.2
    rw [e] at this
    exact absurd (show (1 : Int) = 0 from this) (by decide)
  · exact e
section C7
variable {n : Nat} {h : aH} {Q : aQ} {M : MS}
-- engine e (22 or 25) has worked a text out
def wkd (h : aH) (e : Nat) (M : MS) (s : pT) (dn : Int32) : Prop := ∃ fi W, EnAt h e 1 (alm M.nr) dn fi W ∧ (∀ k, k < s.1 → W k = enc M.nr (fun r => evS s M.f (bt dn) r k)) ∧ (∀ i, i < 32 → (bt fi i = true ↔ ∃ k, k < s.1 ∧ ∃ r, r < M.nr ∧ FR (sG s) s.1 (sL s) (sR s) M.f r (fun j => evS s M.f (bt dn) r j) k i))
theorem K_work22 {x : Nat} {B : Nat → Int32} {s : pT} {len : Nat} {dn : Int32} (c : CInv h M) (m : MOk M) (hX : TxI h x B s len) (hx : x + 6 ≤ 22) (hx1 : 4 ≤ x) (hI : pI s len) (hl : len ≤ 40) (hw : pwB s = true) (hq : ∀ h', CInv h' M → wkd h' 22 M s dn → sOff h h' 22 25 → Q none n h') : Ok 6 [.ref 22, .ref x, .int dn] n h Q := by
  obtain ⟨S, hT, hk⟩ := s_txOk hX hI hl hw
  obtain ⟨sE, hTb, hE⟩ := c.tb
  obtain ⟨al, dn0, fi0, W0, hEn⟩ := c.en
  refine E_work ⟨al, dn0, fi0, hEn⟩ hTb m.nr (by omega) hT hk (by omega) (by omega) (fun h' fi' W' a1 a2 a3 hO => ?_)
  exact hq h' (CInv.uEn a1 c hO) ⟨fi', W', a1, a2, a3⟩ hO
theorem K_work25 {x : Nat} {B : Nat → Int32} {s : pT} {len : Nat} {dn : Int32} (c : CInv h M) (m : MOk M) (hX : TxI h x B s len) (hx : x + 6 ≤ 22) (hx1 : 4 ≤ x) (hI : pI s len) (hl : len ≤ 40) (hw : pwB s = true) (hq : ∀ h', CInv h' M → wkd h' 25 M s dn → sOff h h' 25 28 → Q none n h') : Ok 6 [.ref 25, .ref x, .int dn] n h Q := by
  obtain ⟨S, hT, hk⟩ := s_txOk hX hI hl hw
  obtain ⟨sE, hTb, hE⟩ := c.tb
  obtain ⟨al, dn0, fi0, W0, hEn⟩ := c.me
  refine E_work ⟨al, dn0, fi0, hEn⟩ hTb m.nr (by omega) hT hk (by omega) (by omega) (fun h' fi' W' a1 a2 a3 hO => ?_)
  exact hq h' (CInv.uMe a1 c hO) ⟨fi', W', a1, a2, a3⟩ hO
end C7
