/-! a method's walk is its contract -/
def eL0 : List Value → List (Option Value)
  | [] => []
  | v :: r => if v.category = 2 then some v :: none :: eL0 r else some v :: eL0 r
def eL (as : List Value) (m : Nat) : List (Option Value) := eL0 as ++ List.replicate (m - ct as) none
theorem eL0_len : ∀ as : List Value, (eL0 as).length = ct as
  | [] => rfl
  | v :: r => by
    rw [eL0, ct]
    rcases lv_cat v with h | h
    · rw [if_neg (by omega), List.length_cons, eL0_len r, h]; omega
    · rw [if_pos h, List.length_cons, List.length_cons, eL0_len r, h]; omega
theorem eL_len {as : List Value} {m : Nat} (h : ct as ≤ m) : (eL as m).length = m := by
  rw [eL, List.length_append, eL0_len, List.length_replicate]; omega
theorem lsA_nones (f : Value → Value) : ∀ (m i : Nat), lsA f i (List.replicate m none) = []
  | 0, i => rfl
  | m + 1, i => by rw [List.replicate_succ, lsA]; exact lsA_nones f m (i + 1)
theorem lsA_args (b : Nat) (sa : Nat → Nat) (m : Nat) : ∀ (as : List Value) (i : Nat), lsA (aV b sa) i (eL0 as ++ List.replicate m none) = lv_args i (as.map (aV b sa))
  | [], i => by rw [eL0, List.nil_append, lsA_nones]; rfl
  | v :: r, i => by
    rw [eL0, List.map_cons, lv_args, aV_cat]
    rcases lv_cat v with h | h
    · rw [if_neg (by omega), if_neg (by omega), List.cons_append, lsA, lsA_args b sa m r]
    · rw [if_pos h, if_pos h, List.cons_append, List.cons_append, lsA, lsA, lsA_args b sa m r]
theorem lg_len (b : Nat) (sa : Nat → Nat) : ∀ as : List Value, (lg_sl (as.map (aV b sa))).length = ct as
  | [] => rfl
  | v :: r => by
    have ih := lg_len b sa r
    rw [lg_sl] at ih ⊢
    rw [List.map_cons, List.flatMap_cons, List.length_append, ih, ct, aV_cat]
    rcases lv_cat v with h | h
    · rw [if_neg (by omega), h]; rfl
    · rw [if_pos h, h]; rfl
theorem ok_of {j n : Nat} {h : aH} {as : List Value} {Q : aQ} (hm : okM j) (hc : okC j) (hl : ct as ≤ mlT j) (hA : ∀ z, A z j n 0 0 h 0 (eL as (mlT j)) [] Q) : Ok j as n h Q := by
  refine ⟨hm, fun z l b sa cs D => ?_⟩
  refine Met.ofW (cc := bT j) (maxL := mlT j) (ret := rtT j) hm.1 rfl ?_
  intro p e s m args below meth c s₁ B hml hv
  obtain ⟨rfl, hWO, hR⟩ := hv
  have hts : ∀ w ∈ tblG, w.before _ s = true := fun w hw => atoms_spec B.pre w (List.mem_cons_of_mem _ hw)
  have hown : s.vm.findClass (yT j).cls = some m.cls := findClass_of_methodNamed B.named
  have hin : meth.name = (yT j).name := (name_of_methodNamed B.named B.method).1
  have hlv := lv_entry (as.map (aV b sa)) (n := mlT j) (by rw [lg_len]; exact hl)
  rw [lg_entry_eq]
  rw [← lsA_args b sa (mlT j - ct as) as 0] at hlv
  generalize (lg_sl (as.map (aV b sa)) ++ List.replicate (mlT j - (lg_sl (as.map (aV b sa))).length) Slot.unset).toArray = la at hlv ⊢
  refine hA z p l e _ s m _ below meth c b sa cs D _ ⟨hc, B.exec, B.bytes, B.returns, hml, hown, hts, B.notSynchronized, fun q => by rw [hin]; exact q, hWO, Nat.le_refl _, Nat.le_refl _, rfl, rfl⟩ ?_ s.heap [] la hR va_S.rf hlv
  intro pc' la v n' h' H locs k' sl' hQ h1 h2 hR' hS' hret
  refine W.widen h1 h2 ?_
  have hfin : ∀ t : State, t.heap = H → s.WarmedH t.vm → (∃ (v' : Option Value) (n' : Nat) (h' : aH), Outcome.returned (v.map (aV b sa)) = .returned (v'.map (aV b sa)) ∧ Q v' n' h' ∧ Rep b sa cs D n' h' t.heap) ∧ va_F (fun q => b ≤ q) s t := fun t ht hW => ⟨⟨v, n', h', rfl, hQ, by rw [ht]; exact hR'⟩, hS'.F ht⟩
  have hr := B.returns
  cases v with
  | none => exact W.vret B.exec B.bytes (by rw [hr]; exact hret.2) hfin hS'.2.2 hret.1 B.notSynchronized
  | some v =>
    cases v with
    | int x =>
      obtain ⟨g1, g2⟩ := hret
      rcases g2 with g2 | ⟨g2, g3⟩
      · exact W.iret B.exec B.bytes (by rw [hr]; exact g2) hfin hS'.2.2 g1 B.notSynchronized
      · exact W.zret (ty := .boolean) B.exec B.bytes (by rw [hr]; exact g2) (by rcases g3 with rfl | rfl <;> rfl) hfin hS'.2.2 g1 B.notSynchronized
    | long x => exact W.lret B.exec B.bytes (by rw [hr]; exact hret.2) hfin hS'.2.2 hret.1 B.notSynchronized
    | null => obtain ⟨g1, ⟨nm, g2⟩, g3⟩ := hret; exact W.aret B.exec B.bytes (by rw [hr]; exact g2) (Or.inl ⟨nm, rfl⟩) (Or.inl rfl) hfin hS'.2.2 g1 B.notSynchronized
    | ref a => obtain ⟨g1, ⟨nm, g2⟩, g3⟩ := hret; exact W.aret B.exec B.bytes (by rw [hr]; exact g2) (Or.inl ⟨nm, rfl⟩) (Or.inr ⟨_, rfl⟩) hfin hS'.2.2 g1 B.notSynchronized
    | float a => obtain ⟨g1, ⟨nm, g2⟩, g3⟩ := hret; exact W.aret B.exec B.bytes (by rw [hr]; exact g2) (Or.inl ⟨nm, rfl⟩) (Or.inr ⟨_, rfl⟩) hfin hS'.2.2 g1 B.notSynchronized
    | double a => obtain ⟨g1, ⟨nm, g2⟩, g3⟩ := hret; rcases g3 with g3 | ⟨_, g3⟩ <;> cases g3
    | retAddr a => obtain ⟨g1, ⟨nm, g2⟩, g3⟩ := hret; rcases g3 with g3 | ⟨_, g3⟩ <;> cases g3
