/-! class and model together -/
theorem CInv.kept {h h' : aH} {M : MS} (c : CInv h M) (k : ∀ q, q < 52 → h' q = h q) : CInv h' M := by
  refine ⟨(k 0 (by omega)).trans c.o, ?_, c.t0.kept (fun q _ _ => k q (by omega)), c.t1.kept (fun q _ _ => k q (by omega)), ?_, ?_, ?_, (k 28 (by omega)).trans c.lw, ?_, ?_, c.pa.kept (fun q _ _ => k q (by omega)), c.sm.kept (fun q _ _ => k q (by omega)), ?_, fun s hs => (c.sh s hs).kept (fun q _ _ => k q (by omega))⟩
  · obtain ⟨sE, a, b⟩ := c.tb; exact ⟨sE, a.kept (fun q _ _ => k q (by omega)), b⟩
  · obtain ⟨B, G, S, L, R, len, ac, ot, om, mi, sk, a⟩ := c.sp; exact ⟨B, G, S, L, R, len, ac, ot, om, mi, sk, TxAt.kept a (fun q _ _ => k q (by omega))⟩
  · obtain ⟨al, dn, fi, W, a⟩ := c.en; exact ⟨al, dn, fi, W, a.kept (fun q _ _ => k q (by omega))⟩
  · obtain ⟨al, dn, fi, W, a⟩ := c.me; exact ⟨al, dn, fi, W, a.kept (fun q _ _ => k q (by omega))⟩
  · obtain ⟨l, a, b⟩ := c.cu; exact ⟨l, a, (k 29 (by omega)).trans b⟩
  · obtain ⟨Rm, w, sd, a⟩ := c.gr; exact ⟨Rm, w, sd, a.kept (fun q _ _ => k q (by omega))⟩
  · obtain ⟨g, a, b⟩ := c.sa; exact ⟨g, (k 43 (by omega)).trans a, b⟩
theorem MI.kept {h h' : aH} {M : MS} (m : MI h M) (k : ∀ q, 52 ≤ q → q < 80 → h' q = h q) : MI h' M := by
  obtain ⟨c, a, l, m, r⟩ := m
  exact ⟨c, a, l, m.kept k, r⟩
def JI (h : aH) (M : MS) : Prop := CInv h M ∧ MI h M ∧ MOk M
-- after the class's call, and after the model's
theorem JI.both {h h1 h2 : aH} {M M' : MS} (j : JI h M) (c : CInv h1 M') (o1 : sOff h h1 0 52) (m : MI h1 M → MI h2 M') (o2 : sOff h1 h2 52 80) (ok : MOk M') : JI h2 M' := ⟨c.kept (fun q hq => o2 q (by omega)), m (j.2.1.kept (fun q h1 h2 => o1 q (by omega))), ok⟩
