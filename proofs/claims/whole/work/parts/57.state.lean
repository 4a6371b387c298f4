
/-! the state of an object, as numbers -/
def MS : Type := (Nat → Int32) × (Nat) × (Nat → Nat → Int32) × (Nat → pT) × (Nat → Nat) × (Nat → Int32) × (Int32) × (Int32) × (Int32) × (Nat → Nat → Int64) × (Nat → Int32) × (Nat → Nat)
def MS.f (M : MS) : Nat → Int32 := M.1
def MS.nr (M : MS) : Nat := M.2.1
def MS.B (M : MS) : Nat → Nat → Int32 := M.2.2.1
def MS.s (M : MS) : Nat → pT := M.2.2.2.1
def MS.len (M : MS) : Nat → Nat := M.2.2.2.2.1
def MS.P (M : MS) : Nat → Int32 := M.2.2.2.2.2.1
def MS.ru (M : MS) : Int32 := M.2.2.2.2.2.2.1
def MS.fa (M : MS) : Int32 := M.2.2.2.2.2.2.2.1
def MS.fd (M : MS) : Int32 := M.2.2.2.2.2.2.2.2.1
def MS.I (M : MS) : Nat → Nat → Int64 := M.2.2.2.2.2.2.2.2.2.1
def MS.fm (M : MS) : Nat → Int32 := M.2.2.2.2.2.2.2.2.2.2.1
def MS.sz (M : MS) : Nat → Nat := M.2.2.2.2.2.2.2.2.2.2.2
def mkM (f : Nat → Int32) (nr : Nat) (B : Nat → Nat → Int32) (s : Nat → pT) (len : Nat → Nat) (P : Nat → Int32) (ru fa fd : Int32) (I : Nat → Nat → Int64) (fm : Nat → Int32) (sz : Nat → Nat) : MS := (f, nr, B, s, len, P, ru, fa, fd, I, fm, sz)
def TxI (h : aH) (x : Nat) (B : Nat → Int32) (s : pT) (len : Nat) : Prop := ∃ S, TxS h x B S s len ∧ szOk S s
theorem TxI.kept {h h' : aH} {x : Nat} {B : Nat → Int32} {s : pT} {len : Nat} (hT : TxI h x B s len) (hk : ∀ q, x ≤ q → q < x + 6 → h' q = h q) : TxI h' x B s len := by
  obtain ⟨S, a, b⟩ := hT
  exact ⟨S, TxAt.kept a hk, b⟩
theorem EnAt.kept {h h' : aH} {t tb : Nat} {al dn fi : Int32} {W : Nat → Int32} (hE : EnAt h t tb al dn fi W) (hk : ∀ q, t ≤ q → q < t + 3 → h' q = h q) : EnAt h' t tb al dn fi W := by
  obtain ⟨w1, ⟨v1, v2, v3, v4, v5, w2⟩, w3⟩ := hE
  exact ⟨by unfold EnO; rw [hk _ (by omega) (by omega)]; exact w1, ⟨v1, v2, v3, v4, v5, by unfold SdAt; rw [hk _ (by omega) (by omega)]; exact w2⟩, by rw [hk _ (by omega) (by omega)]; exact w3⟩
def smC (h : aH) : Prop := ∃ Tm f sE al dn fi W, SmO h 34 Tm ∧ (∀ i, i < 24 → Tm i = TmF i) ∧ LwO h 42 39 36 ∧ EnAt h 39 36 al dn fi W ∧ TbAt h 36 12 f sE 12 ∧ SEok f sE 12 ∧ (∀ q, q < 36 → f q = smTf q)
def pmS (P : Nat → Int32) : Int32 := smF (fun a => bcE (P a)) 8 / 2
def CInv (h : aH) (M : MS) : Prop := (h 0 = some (.inl (10, [.ref 1, .ref 4, .ref 10, .ref 16, .ref 22, .ref 25, .ref 28, .ref 29, .ref 30, .ref 32, .ref 34, .ref 43, .int M.ru, .int M.fa, .int M.fd]))) ∧ (∃ sE, TbAt h 1 8 M.f sE M.nr ∧ SEok M.f sE M.nr) ∧ (TxI h 4 (M.B 0) (M.s 0) (M.len 0)) ∧ (TxI h 10 (M.B 1) (M.s 1) (M.len 1)) ∧ (∃ B G S L R len ac ot om mi sk, TxAt h 16 B G S L R len ac ot om mi sk) ∧ (∃ al dn fi W, EnAt h 22 1 al dn fi W) ∧ (∃ al dn fi W, EnAt h 25 1 al dn fi W) ∧ (LwO h 28 22 1) ∧ (∃ l a, CuO h 29 28 l a) ∧ (∃ Rm w sd, GrAt h 30 Rm w sd) ∧ (PaAt h 32 M.P (pmS M.P)) ∧ (smC h) ∧ (∃ g : Nat → Option Nat, h 43 = some (.inr (4, .inr (.inr g))) ∧ ∀ s, s < 4 → g s = some (44 + 2 * s)) ∧ (∀ s, s < 4 → ShAt h (44 + 2 * s) (M.I s) (M.fm s) (M.sz s))
theorem CInv.o {h : aH} {M : MS} (c : CInv h M) : h 0 = some (.inl (10, [.ref 1, .ref 4, .ref 10, .ref 16, .ref 22, .ref 25, .ref 28, .ref 29, .ref 30, .ref 32, .ref 34, .ref 43, .int M.ru, .int M.fa, .int M.fd])) := c.1
theorem CInv.tb {h : aH} {M : MS} (c : CInv h M) : ∃ sE, TbAt h 1 8 M.f sE M.nr ∧ SEok M.f sE M.nr := c.2.1
theorem CInv.t0 {h : aH} {M : MS} (c : CInv h M) : TxI h 4 (M.B 0) (M.s 0) (M.len 0) := c.2.2.1
theorem CInv.t1 {h : aH} {M : MS} (c : CInv h M) : TxI h 10 (M.B 1) (M.s 1) (M.len 1) := c.2.2.2.1
theorem CInv.sp {h : aH} {M : MS} (c : CInv h M) : ∃ B G S L R len ac ot om mi sk, TxAt h 16 B G S L R len ac ot om mi sk := c.2.2.2.2.1
theorem CInv.en {h : aH} {M : MS} (c : CInv h M) : ∃ al dn fi W, EnAt h 22 1 al dn fi W := c.2.2.2.2.2.1
theorem CInv.me {h : aH} {M : MS} (c : CInv h M) : ∃ al dn fi W, EnAt h 25 1 al dn fi W := c.2.2.2.2.2.2.1
theorem CInv.lw {h : aH} {M : MS} (c : CInv h M) : LwO h 28 22 1 := c.2.2.2.2.2.2.2.1
theorem CInv.cu {h : aH} {M : MS} (c : CInv h M) : ∃ l a, CuO h 29 28 l a := c.2.2.2.2.2.2.2.2.1
theorem CInv.gr {h : aH} {M : MS} (c : CInv h M) : ∃ Rm w sd, GrAt h 30 Rm w sd := c.2.2.2.2.2.2.2.2.2.1
theorem CInv.pa {h : aH} {M : MS} (c : CInv h M) : PaAt h 32 M.P (pmS M.P) := c.2.2.2.2.2.2.2.2.2.2.1
theorem CInv.sm {h : aH} {M : MS} (c : CInv h M) : smC h := c.2.2.2.2.2.2.2.2.2.2.2.1
theorem CInv.sa {h : aH} {M : MS} (c : CInv h M) : ∃ g : Nat → Option Nat, h 43 = some (.inr (4, .inr (.inr g))) ∧ ∀ s, s < 4 → g s = some (44 + 2 * s) := c.2.2.2.2.2.2.2.2.2.2.2.2.1
theorem CInv.sh {h : aH} {M : MS} (c : CInv h M) : ∀ s, s < 4 → ShAt h (44 + 2 * s) (M.I s) (M.fm s) (M.sz s) := c.2.2.2.2.2.2.2.2.2.2.2.2.2
abbrev okV (v : Int32) : Prop := v = -100 ∨ (-9 ≤ v ∧ v ≤ 9)
def pS (B : Nat → Int32) : Nat → pT
  | 0 => pz (fun _ => 0) (fun _ => 0) (fun _ => 0)
  | k + 1 => pstep (pS B k) k (B k)
def pR (s s' : pT) : Prop := match s, s' with
  | (ac, ot, om, mi, sk, G, L, R), (ac', ot', om', mi', sk', G', L', R') => ac = ac' ∧ ot = ot' ∧ om = om' ∧ mi = mi' ∧ sk = sk' ∧ (∀ k, k < ac → G k = G' k) ∧ (∀ k, k < ac → isCm (G k) → (k + 1 = ac ∧ om = 2) ∨ L k = L' k) ∧ (∀ k, k < ac → isCm (G k) → (k + 1 = ac ∧ 0 < om) ∨ R k = R' k)
def MOk (M : MS) : Prop := (M.nr ≤ 8) ∧ (∀ q, q < M.nr * 3 → okV (M.f q)) ∧ (∀ t, t < 2 → M.len t ≤ 40) ∧ (∀ t, t < 2 → pI (M.s t) (M.len t)) ∧ (∀ t, t < 2 → pR (M.s t) (pS (M.B t) (M.len t))) ∧ (∀ i, 8 ≤ i → bt M.ru i = false) ∧ (∀ i, 8 ≤ i → bt M.fa i = false) ∧ (∀ a, a < 8 → ∀ i, 8 ≤ i → bt (M.P a) i = false) ∧ (∀ a, a < 8 → bt (M.P a) a = false) ∧ (∀ a b, a < 8 → b < 8 → bt (M.P a) b = bt (M.P b) a) ∧ (∀ s, s < 4 → M.sz s ≤ 48) ∧ (∀ s, s < 4 → -1 ≤ M.fm s ∧ M.fm s < 4) ∧ (∀ s i, s < 4 → i < M.sz s → nwF (M.fm s) (M.I s i) = M.I s i)
theorem MOk.nr {M : MS} (c : MOk M) : M.nr ≤ 8 := c.1
theorem MOk.cv {M : MS} (c : MOk M) : ∀ q, q < M.nr * 3 → okV (M.f q) := c.2.1
theorem MOk.ln {M : MS} (c : MOk M) : ∀ t, t < 2 → M.len t ≤ 40 := c.2.2.1
theorem MOk.pi {M : MS} (c : MOk M) : ∀ t, t < 2 → pI (M.s t) (M.len t) := c.2.2.2.1
theorem MOk.pr {M : MS} (c : MOk M) : ∀ t, t < 2 → pR (M.s t) (pS (M.B t) (M.len t)) := c.2.2.2.2.1
theorem MOk.ru {M : MS} (c : MOk M) : ∀ i, 8 ≤ i → bt M.ru i = false := c.2.2.2.2.2.1
theorem MOk.fa {M : MS} (c : MOk M) : ∀ i, 8 ≤ i → bt M.fa i = false := c.2.2.2.2.2.2.1
theorem MOk.p8 {M : MS} (c : MOk M) : ∀ a, a < 8 → ∀ i, 8 ≤ i → bt (M.P a) i = false := c.2.2.2.2.2.2.2.1
theorem MOk.pn {M : MS} (c : MOk M) : ∀ a, a < 8 → bt (M.P a) a = false := c.2.2.2.2.2.2.2.2.1
theorem MOk.ps {M : MS} (c : MOk M) : ∀ a b, a < 8 → b < 8 → bt (M.P a) b = bt (M.P b) a := c.2.2.2.2.2.2.2.2.2.1
theorem MOk.sz {M : MS} (c : MOk M) : ∀ s, s < 4 → M.sz s ≤ 48 := c.2.2.2.2.2.2.2.2.2.2.1
theorem MOk.fm {M : MS} (c : MOk M) : ∀ s, s < 4 → -1 ≤ M.fm s ∧ M.fm s < 4 := c.2.2.2.2.2.2.2.2.2.2.2.1
theorem MOk.it {M : MS} (c : MOk M) : ∀ s i, s < 4 → i < M.sz s → nwF (M.fm s) (M.I s i) = M.I s i := c.2.2.2.2.2.2.2.2.2.2.2.2
theorem pR_step {s s' : pT} {len : Nat} {b : Int32} (hI : pI s len) (h : pR s s') : pR (pstep s len b) (pstep s' len b) := by
  obtain ⟨ac, ot, om, mi, sk, G, L, R⟩ := s
  obtain ⟨ac', ot', om', mi', sk', G', L', R'⟩ := s'
  obtain ⟨rfl, rfl, rfl, rfl, rfl, hG, hL, hR⟩ := h
  obtain ⟨a1, a2, a3, a4, a5, a6, a7, a8, a9, a10⟩ := hI
  unfold pstep
  dsimp only
  have same : ∀ mi' sk', pR (ac, ot, om, mi', sk', G, L, R) (ac, ot, om, mi', sk', G', L', R') := fun mi' sk' => ⟨rfl, rfl, rfl, rfl, rfl, hG, hL, hR⟩
  by_cases c0 : ¬ sk = -1
  · rw [if_pos c0, if_pos c0]; exact same _ _
  rw [if_neg c0, if_neg c0]
  by_cases c1 : 0 < om
  · rw [if_pos c1, if_pos c1]
    by_cases c2 : b = 45 ∧ mi = 0
    · rw [if_pos c2, if_pos c2]; exact same _ _
    rw [if_neg c2, if_neg c2]
    by_cases c3 : tmO mi b = 1000
    · rw [if_pos c3, if_pos c3]; exact same _ _
    rw [if_neg c3, if_neg c3]
    by_cases c4 : om = 2
    · rw [if_pos c4, if_pos c4]
      refine ⟨rfl, rfl, rfl, rfl, rfl, hG, fun k hk hc => ?_, fun k hk hc => ?_⟩
      · right
        by_cases hk2 : k = ac - 1
        · subst hk2; rw [pk_us, pk_us]
        · rw [pk_un hk2, pk_un hk2]
          rcases hL k hk hc with q | q
          · omega
          · exact q
      · rcases hR k hk hc with q | q
        · left; exact ⟨q.1, by omega⟩
        · right; exact q
    · rw [if_neg c4, if_neg c4]
      refine ⟨rfl, rfl, rfl, rfl, rfl, hG, fun k hk hc => ?_, fun k hk hc => ?_⟩
      · rcases hL k hk hc with q | q
        · omega
        · right; exact q
      · right
        by_cases hk2 : k = ac - 1
        · subst hk2; rw [pk_us, pk_us]
        · rw [pk_un hk2, pk_un hk2]
          rcases hR k hk hc with q | q
          · omega
          · exact q
  rw [if_neg c1, if_neg c1]
  by_cases c2 : ot = 0
  · rw [if_pos c2, if_pos c2]; exact same _ _
  rw [if_neg c2, if_neg c2]
  have hom : om = 0 := by omega
  have hGu : ∀ k, k < ac + 1 → upd G ac b k = upd G' ac b k := fun k hk => by
    by_cases hka : k = ac
    · subst hka; rw [pk_us, pk_us]
    · rw [pk_un hka, pk_un hka]; exact hG k (by omega)
  have old : (∀ k, k < ac + 1 → isCm (upd G ac b k) → k ≠ ac → L k = L' k ∧ R k = R' k) := fun k hk hc hne => by
    rw [pk_un hne] at hc
    refine ⟨?_, ?_⟩
    · rcases hL k (by omega) hc with q | q
      · omega
      · exact q
    · rcases hR k (by omega) hc with q | q
      · omega
      · exact q
  by_cases c3 : b = 38 ∨ b = 124
  · rw [if_pos c3, if_pos c3]
    have hb : isTw b := c3
    refine ⟨rfl, rfl, rfl, rfl, rfl, hGu, fun k hk hc => ?_, fun k hk hc => ?_⟩
    · by_cases hka : k = ac
      · subst hka; rw [pk_us] at hc; exact absurd hc (tw_ncm hb)
      · right; exact (old k hk hc hka).1
    · by_cases hka : k = ac
      · subst hka; rw [pk_us] at hc; exact absurd hc (tw_ncm hb)
      · right; exact (old k hk hc hka).2
  rw [if_neg c3, if_neg c3]
  by_cases c4 : b = 33 ∨ b = 63
  · rw [if_pos c4, if_pos c4]
    have hb : isOn b := c4
    refine ⟨rfl, rfl, rfl, rfl, rfl, hGu, fun k hk hc => ?_, fun k hk hc => ?_⟩
    · by_cases hka : k = ac
      · subst hka; rw [pk_us] at hc; exact absurd hc (on_ncm hb)
      · right; exact (old k hk hc hka).1
    · by_cases hka : k = ac
      · subst hka; rw [pk_us] at hc; exact absurd hc (on_ncm hb)
      · right; exact (old k hk hc hka).2
  rw [if_neg c4, if_neg c4]
  by_cases c5 : b = 60 ∨ b = 61 ∨ b = 62
  · rw [if_pos c5, if_pos c5]
    have hb : isCm b := c5
    refine ⟨rfl, rfl, rfl, rfl, rfl, hGu, fun k hk hc => ?_, fun k hk hc => ?_⟩
    · by_cases hka : k = ac
      · left; exact ⟨by omega, rfl⟩
      · right; exact (old k hk hc hka).1
    · by_cases hka : k = ac
      · left; exact ⟨by omega, by omega⟩
      · right; exact (old k hk hc hka).2
  rw [if_neg c5, if_neg c5]
  exact same _ _
