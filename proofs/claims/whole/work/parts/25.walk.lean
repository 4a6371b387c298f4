section Calls2
variable {z : aZ} {j n k sl : Nat} {h : aH} {pc : Nat} {ls : List (Option Value)} {st : List Value} {Q : aQ}
theorem map_toList_app (b : Nat) (sa : Nat → Nat) (v : Option Value) (r : List Value) : (v.toList ++ r).map (aV b sa) = (v.map (aV b sa)).toList ++ r.map (aV b sa) := by cases v <;> simp
theorem s_invV {idx x y a : Nat} {ps : List Nat} {c' : Int32} {d' : Int64} {as r : List Value} {fs : List Value} (hd : decode (bT j) pc = .ok (.invokevirtual idx, 3)) (hs : sideB j pc (.invokevirtual idx) x y ps c' d' = true)
    (hpop : popN (ps.getD 0 0) [] st = some (.ref a :: as, r)) (hct : ct r ≤ 8) (hmc : k + ps.getD 2 0 ≤ mcT j) (hms : sl + ps.getD 3 0 ≤ msT j) (ha : h a = some (.inl (ps.getD 1 0, fs)))
    (hk : Ok x (.ref a :: as) n h (fun v n' h' => A z j n' (k + ps.getD 2 0) (sl + ps.getD 3 0) h' (pc + 3) ls (v.toList ++ r) Q)) : A z j n k sl h pc ls st Q := by
  intro p l e R s m args below meth c b sa cs D Qc hC hret H locs la hR hS hl
  obtain ⟨-, hx, hb, -, hml, hown, hts, -, -, hWO, hRf, hRl, hRc, hRs⟩ := id hC
  obtain ⟨hM, hMet⟩ := hk
  simp only [sideB, Bool.and_eq_true, decide_eq_true_eq] at hs
  obtain ⟨⟨⟨⟨⟨hna, hcb⟩, hcl⟩, hw4⟩, hw5⟩, hw6⟩ := hs
  obtain ⟨emc, ems, hne, hpar, hfr, hlo⟩ := callB0_spec hcb
  obtain ⟨bs, hb1, hb2, hb3⟩ := popN_spec hpop
  rw [List.append_nil] at hb1
  cases hq : vwCl[ps.getD 1 0]? with
  | none => rw [hq] at hcl; simp at hcl
  | some q =>
    rw [hq] at hcl
    have hqc : q.1 = (yT x).cls := by simpa using hcl
    have hstk : st.map (aV b sa) = (as.map (aV b sa)).reverse ++ .ref (b + a) :: r.map (aV b sa) := by
      have : bs = as.reverse ++ [.ref a] := by
        have := congrArg List.reverse hb1
        simpa using this.symm
      rw [hb2, this]
      simp [aV]
    rw [hstk]
    rw [emc] at hmc; rw [ems] at hms
    refine acall (Q' := fun v n' h' => A z j n' (k + ps.getD 2 0) (sl + ps.getD 3 0) h' (pc + 3) ls (v.toList ++ r) Q) (b := b) (sa := sa) (cs := cs) (D := D) (mc := mcT x) (ms := msT x)
      (va_runV (C := (yT x).cls) (n := ps.getD 0 0 - 1) (b := b + a) (As := as.map (aV b sa)) (rest := r.map (aV b sa)) ⟨hx, hb, hml, hown, hts⟩ (hMet z l b sa cs D) ⟨callB_of _ hts (goodG hM tblG (fun _ q => q)) rfl rfl rfl (hts _ hM.2.2) (hts _ (wAt_mem hw4)) ⟨hne.1, hne.2, hpar⟩ ⟨Nat.le_trans hfr hRf, Nat.le_trans hlo hRl⟩, hts _ (wAt_mem hw5), hts _ (wAt_mem hw6)⟩ ⟨preBlind, ?_, fun U hU hW => ⟨rfl, hWO.moved hW hU hS, by rw [hU]; exact hR⟩⟩ rfl ?_ hl.1 rfl (lv_room (by rw [ct_sum]; exact hct)) hd ⟨by rw [hRc]; exact hmc, by rw [hRs]; exact hms⟩) hS ?_
    · obtain ⟨cell, g1, g2, g3⟩ := va_recv hWO.2.1 (hR.P1 ha) hq (q0 := 0) rfl
      exact ⟨cell, g1, g2, by rw [← hqc]; exact g3⟩
    · have h9 := congrArg List.length hb1
      simp at h9
      rw [List.length_map]; omega
    · intro v n' h' H1 locs1 hQ hR1 hS1
      have h9 := hQ p l e R s m args below meth c b sa cs D Qc hC hret H1 locs1 la hR1 hS1 hl
      rw [map_toList_app, emc, ems] at h9
      exact h9
theorem s_invS {idx x y : Nat} {ps : List Nat} {c' : Int32} {d' : Int64} {as r : List Value} (hd : decode (bT j) pc = .ok (.invokestatic idx, 3)) (hs : sideB j pc (.invokestatic idx) x y ps c' d' = true) (hy3 : ¬ y = 3) (hy4 : ¬ y = 4)
    (hpop : popN (ps.getD 0 0) [] st = some (as, r)) (hct : ct r ≤ 8) (hmc : k + ps.getD 2 0 ≤ mcT j) (hms : sl + ps.getD 3 0 ≤ msT j)
    (hk : Ok x as n h (fun v n' h' => A z j n' (k + ps.getD 2 0) (sl + ps.getD 3 0) h' (pc + 3) ls (v.toList ++ r) Q)) : A z j n k sl h pc ls st Q := by
  intro p l e R s m args below meth c b sa cs D Qc hC hret H locs la hR hS hl
  obtain ⟨-, hx, hb, -, hml, hown, hts, -, -, hWO, hRf, hRl, hRc, hRs⟩ := id hC
  obtain ⟨hM, hMet⟩ := hk
  simp only [sideB, if_neg hy3, if_neg hy4, Bool.and_eq_true] at hs
  obtain ⟨⟨hcb, hw5⟩, hw4⟩ := hs
  obtain ⟨emc, ems, hne, hpar, hfr, hlo⟩ := callB0_spec hcb
  obtain ⟨bs, hb1, hb2, hb3⟩ := popN_spec hpop
  rw [List.append_nil] at hb1
  have hstk : st.map (aV b sa) = (as.map (aV b sa)).reverse ++ r.map (aV b sa) := by
    have : bs = as.reverse := by rw [hb1]; simp
    rw [hb2, this]
    simp
  rw [hstk]
  rw [emc] at hmc; rw [ems] at hms
  have hln : (as.map (aV b sa)).length = ps.getD 0 0 := by rw [List.length_map, hb1]; simpa using hb3
  have hfin : ∀ (v : Option Value) (n' : Nat) (h' : aH) (H1 : Heap) (locs1 : List Loc), (fun v n' h' => A z j n' (k + ps.getD 2 0) (sl + ps.getD 3 0) h' (pc + 3) ls (v.toList ++ r) Q) v n' h' → Rep b sa cs D n' h' H1 → va_S (fun q => b ≤ q) s.heap H1 locs1 → W p l e R s m args below meth c H1 locs1 (k + mcT x) (sl + msT x) Qc (F0 m (pc + 3) la ((v.map (aV b sa)).toList ++ r.map (aV b sa))) := by
    intro v n' h' H1 locs1 hQ hR1 hS1
    have h9 := hQ p l e R s m args below meth c b sa cs D Qc hC hret H1 locs1 la hR1 hS1 hl
    rw [map_toList_app, emc, ems] at h9
    exact h9
  by_cases hy : y = 0
  · rw [if_pos hy] at hw4
    exact acall (va_runS (n := ps.getD 0 0) (As := as.map (aV b sa)) (rest := r.map (aV b sa)) ⟨hx, hb, hml, hown, hts⟩ (hMet z l b sa cs D) ⟨callB_of _ hts (goodG hM tblG (fun _ q => q)) rfl rfl rfl (hts _ hM.2.2) (hts _ (wAt_mem hw4)) ⟨hne.1, hne.2, hpar⟩ ⟨Nat.le_trans hfr hRf, Nat.le_trans hlo hRl⟩, hts _ (wAt_mem hw5)⟩ ⟨preBlind, fun U hU hW => ⟨rfl, hWO.moved hW hU hS, by rw [hU]; exact hR⟩⟩ rfl hln hl.1 rfl (lv_room (by rw [ct_sum]; exact hct)) hd ⟨by rw [hRc]; exact hmc, by rw [hRs]; exact hms⟩) hS hfin
  · rw [if_neg hy] at hw4
    have hm := List.mem_of_getElem? (of_decide_eq_true hw4)
    exact acall (va_runSN (n := ps.getD 0 0) (As := as.map (aV b sa)) (rest := r.map (aV b sa)) ⟨hx, hb, hml, hown, hts⟩ (hMet z l b sa cs D) ⟨va_cnB _ hts (goodG hM tblG (fun _ q => q)) rfl rfl rfl (hWO.2.2.1 _ hm) (hts _ hM.2.2) ⟨hne.1, hne.2, hpar⟩ ⟨Nat.le_trans hfr hRf, Nat.le_trans hlo hRl⟩, hts _ (wAt_mem hw5), trivial⟩ ⟨preBlind, fun U hU hW => ⟨rfl, hWO.moved hW hU hS, by rw [hU]; exact hR⟩⟩ rfl hln hl.1 rfl (lv_room (by rw [ct_sum]; exact hct)) hd ⟨by rw [hRc]; exact hmc, by rw [hRs]; exact hms⟩) hS hfin
theorem s_invI {idx x y a : Nat} {ps : List Nat} {c' : Int32} {d' : Int64} {as r : List Value} (hd : decode (bT j) pc = .ok (.invokespecial idx, 3)) (hs : sideB j pc (.invokespecial idx) x y ps c' d' = true) (hy2 : ¬ y = 2)
    (hpop : popN (ps.getD 0 0) [] st = some (.ref a :: as, r)) (hct : ct r ≤ 8) (hmc : k + ps.getD 2 0 ≤ mcT j) (hms : sl + ps.getD 3 0 ≤ msT j)
    (hk : Ok x (.ref a :: as) n h (fun v n' h' => A z j n' (k + ps.getD 2 0) (sl + ps.getD 3 0) h' (pc + 3) ls (v.toList ++ r) Q)) : A z j n k sl h pc ls st Q := by
  intro p l e R s m args below meth c b sa cs D Qc hC hret H locs la hR hS hl
  obtain ⟨-, hx, hb, -, hml, hown, hts, -, -, hWO, hRf, hRl, hRc, hRs⟩ := id hC
  obtain ⟨hM, hMet⟩ := hk
  simp only [sideB, if_neg hy2, Bool.and_eq_true] at hs
  obtain ⟨⟨⟨⟨⟨hna, hcb⟩, hw5⟩, hnm⟩, hrt⟩, hw4⟩ := hs
  have hna := of_decide_eq_true hna
  have hnm := of_decide_eq_true hnm
  have hrt := of_decide_eq_true hrt
  obtain ⟨emc, ems, hne, hpar, hfr, hlo⟩ := callB0_spec hcb
  obtain ⟨bs, hb1, hb2, hb3⟩ := popN_spec hpop
  rw [List.append_nil] at hb1
  have hstk : st.map (aV b sa) = (as.map (aV b sa)).reverse ++ .ref (b + a) :: r.map (aV b sa) := by
    have : bs = as.reverse ++ [.ref a] := by
      have := congrArg List.reverse hb1
      simpa using this.symm
    rw [hb2, this]
    simp [aV]
  rw [hstk]
  rw [emc] at hmc; rw [ems] at hms
  have hln : (as.map (aV b sa)).length = ps.getD 0 0 - 1 := by
    have h9 := congrArg List.length hb1
    simp at h9
    rw [List.length_map]; omega
  have hfin : ∀ (v : Option Value) (n' : Nat) (h' : aH) (H1 : Heap) (locs1 : List Loc), (fun v n' h' => A z j n' (k + ps.getD 2 0) (sl + ps.getD 3 0) h' (pc + 3) ls (v.toList ++ r) Q) v n' h' → Rep b sa cs D n' h' H1 → va_S (fun q => b ≤ q) s.heap H1 locs1 → W p l e R s m args below meth c H1 locs1 (k + mcT x) (sl + msT x) Qc (F0 m (pc + 3) la ((v.map (aV b sa)).toList ++ r.map (aV b sa))) := by
    intro v n' h' H1 locs1 hQ hR1 hS1
    have h9 := hQ p l e R s m args below meth c b sa cs D Qc hC hret H1 locs1 la hR1 hS1 hl
    rw [map_toList_app, emc, ems] at h9
    exact h9
  have hG := goodG hM tblG (fun _ q => q)
  have hMet := hMet z l b sa cs D
  rw [hrt] at hG hMet
  by_cases hy : y = 0
  · rw [if_pos hy] at hw4
    exact acall (va_runI (n := ps.getD 0 0 - 1) (b := b + a) (As := as.map (aV b sa)) (rest := r.map (aV b sa)) ⟨hx, hb, hml, hown, hts⟩ hMet ⟨callB_of _ hts hG rfl rfl rfl (hts _ hM.2.2) (hts _ (wAt_mem hw4)) ⟨hne.1, hne.2, hpar⟩ ⟨Nat.le_trans hfr hRf, Nat.le_trans hlo hRl⟩, hnm, hts _ (wAt_mem hw5)⟩ ⟨preBlind, fun U hU hW => ⟨rfl, hWO.moved hW hU hS, by rw [hU]; exact hR⟩⟩ rfl hln hl.1 rfl (lv_room (by rw [ct_sum]; exact hct)) hd ⟨by rw [hRc]; exact hmc, by rw [hRs]; exact hms⟩) hS hfin
  · rw [if_neg hy] at hw4
    have hm := List.mem_of_getElem? (of_decide_eq_true hw4)
    exact acall (va_runIN (n := ps.getD 0 0 - 1) (b := b + a) (As := as.map (aV b sa)) (rest := r.map (aV b sa)) ⟨hx, hb, hml, hown, hts⟩ hMet ⟨va_cnB _ hts hG rfl rfl rfl (hWO.2.2.1 _ hm) (hts _ hM.2.2) ⟨hne.1, hne.2, hpar⟩ ⟨Nat.le_trans hfr hRf, Nat.le_trans hlo hRl⟩, hnm, hts _ (wAt_mem hw5)⟩ ⟨preBlind, fun U hU hW => ⟨rfl, hWO.moved hW hU hS, by rw [hU]; exact hR⟩⟩ rfl hln hl.1 rfl (lv_room (by rw [ct_sum]; exact hct)) hd ⟨by rw [hRc]; exact hmc, by rw [hRs]; exact hms⟩) hS hfin
theorem s_max {idx x y : Nat} {ps : List Nat} {c' : Int32} {d' : Int64} {a b : Int32} {r : List Value} (hd : decode (bT j) pc = .ok (.invokestatic idx, 3)) (hs : sideB j pc (.invokestatic idx) x y ps c' d' = true) (hy : y = 3) (hct : ct r ≤ 8) (h1 : k ≤ mcT j) (h2 : sl ≤ msT j)
    (hk : A z j n k sl h (pc + 3) ls (.int (if a < b then b else a) :: r) Q) : A z j n k sl h pc ls (.int b :: .int a :: r) Q := by
  intro p l e R s m args below meth c bb sa cs D Qc hC hret H locs la hR hS hl
  obtain ⟨-, hx, hb, -, hml, hown, hts, -, -, hWO, hRf, hRl, hRc, hRs⟩ := id hC
  simp only [sideB, if_pos hy, Bool.and_eq_true, decide_eq_true_eq] at hs
  obtain ⟨⟨⟨⟨⟨w0, w1⟩, w2⟩, w3⟩, hf⟩, hlo⟩ := hs
  refine va_mmax hx hb (by rw [hml, hl.1]) hown (hts _ (wAt_mem w0)) (hts _ (wAt_mem w1)) (hts _ (wAt_mem w2)) (hts _ (wAt_mem w3)) (Nat.le_trans hf hRf) ?_ (by rw [hRc]; exact h1) (by rw [hRs]; exact h2) hd (hk p l e R s m args below meth c bb sa cs D Qc hC hret H locs la hR hS hl)
  rw [ct_sum]; omega
theorem s_min {idx x y : Nat} {ps : List Nat} {c' : Int32} {d' : Int64} {a b : Int32} {r : List Value} (hd : decode (bT j) pc = .ok (.invokestatic idx, 3)) (hs : sideB j pc (.invokestatic idx) x y ps c' d' = true) (hy : y = 4) (hct : ct r ≤ 8) (h1 : k ≤ mcT j) (h2 : sl ≤ msT j)
    (hk : A z j n k sl h (pc + 3) ls (.int (if b < a then b else a) :: r) Q) : A z j n k sl h pc ls (.int b :: .int a :: r) Q := by
  intro p l e R s m args below meth c bb sa cs D Qc hC hret H locs la hR hS hl
  obtain ⟨-, hx, hb, -, hml, hown, hts, -, -, hWO, hRf, hRl, hRc, hRs⟩ := id hC
  simp only [sideB, if_neg (show ¬ y = 3 by omega), if_pos hy, Bool.and_eq_true, decide_eq_true_eq] at hs
  obtain ⟨⟨⟨⟨⟨w0, w1⟩, w2⟩, w3⟩, hf⟩, hlo⟩ := hs
  refine va_mmin hx hb (by rw [hml, hl.1]) hown (hts _ (wAt_mem w0)) (hts _ (wAt_mem w1)) (hts _ (wAt_mem w2)) (hts _ (wAt_mem w3)) (Nat.le_trans hf hRf) ?_ (by rw [hRc]; exact h1) (by rw [hRs]; exact h2) hd (hk p l e R s m args below meth c bb sa cs D Qc hC hret H locs la hR hS hl)
  rw [ct_sum]; omega
theorem s_obj {idx x y a : Nat} {ps : List Nat} {c' : Int32} {d' : Int64} {r : List Value} (hd : decode (bT j) pc = .ok (.invokespecial idx, 3)) (hs : sideB j pc (.invokespecial idx) x y ps c' d' = true) (hy2 : y = 2) (hct : ct r ≤ 8)
    (hk : A z j n k sl h (pc + 3) ls r Q) : A z j n k sl h pc ls (.ref a :: r) Q := by
  intro p l e R s m args below meth c b sa cs D Qc hC hret H locs la hR hS hl
  obtain ⟨-, hx, hb, -, hml, hown, hts, -, -, hWO, hRf, hRl, hRc, hRs⟩ := id hC
  simp only [sideB, if_pos hy2, Bool.and_eq_true, decide_eq_true_eq] at hs
  obtain ⟨⟨⟨⟨w0, w1⟩, w2⟩, hf⟩, hlo⟩ := hs
  refine W.objInit hx hb hown (hts _ (wAt_mem w0)) (hts _ (wAt_mem w1)) (hts _ (wAt_mem w2)) rfl (by rw [hml]; exact hl.1) rfl hd (Nat.le_trans hf hRf) ?_ (hk p l e R s m args below meth c b sa cs D Qc hC hret H locs la hR hS hl)
  have h8 : 2 * (F0 m pc la (List.map (aV b sa) (.ref a :: r))).monitorRoom + ((r.map (aV b sa)).map fun v => v.category).sum ≤ 8 := lv_room (by rw [ct_sum]; exact hct)
  omega
/-! a switch -/
theorem s_swL {dflt : Int} {qs : Array (Int × Int)} {len x y : Nat} {ps : List Nat} {c' : Int32} {d' : Int64} {a : Int32} {r : List Value} (hd : decode (bT j) pc = .ok (.lookupswitch dflt qs, len)) (hs : sideB j pc (.lookupswitch dflt qs) x y ps c' d' = true)
    {κ : Nat → Prop} (hκ : ∀ t, κ t → A z j n k sl h t ls r Q) (hsw : swL a κ (ps.getD 0 0) qs.toList (ps.drop 1)) : A z j n k sl h pc ls (.int a :: r) Q := by
  simp only [sideB, Bool.and_eq_true, decide_eq_true_eq] at hs
  obtain ⟨⟨⟨h0, h1⟩, h2⟩, h3⟩ := hs
  have key : ∀ (ql : List (Int × Int)) (tl : List Nat), ql.map (fun o => (pc : Int) + o.2) = tl.map (fun t : Nat => (t : Int)) → ql.all (fun a => decide ((Int32.ofInt a.1).toInt = a.1)) = true → swL a κ (ps.getD 0 0) ql tl → ∃ (off : Int) (t : Nat), Op.lookupswitch.offset ql dflt a.toInt = off ∧ (pc : Int) + off = (t : Int) ∧ κ t := by
    intro ql
    induction ql with
    | nil =>
      intro tl e1 e2 e3
      cases tl with
      | nil => exact ⟨dflt, ps.getD 0 0, rfl, h0, e3⟩
      | cons t tl => simp at e1
    | cons q ql ih =>
      intro tl e1 e2 e3
      cases tl with
      | nil => simp at e1
      | cons t tl =>
        obtain ⟨q1, q2⟩ := q
        simp only [List.map_cons, List.cons.injEq] at e1
        simp only [List.all_cons, Bool.and_eq_true, decide_eq_true_eq] at e2
        simp only [swL] at e3
        by_cases ha : a = Int32.ofInt q1
        · refine ⟨q2, t, ?_, e1.1, e3.1 ha⟩
          rw [ha, e2.1]
          simp [Op.lookupswitch.offset]
        · obtain ⟨off, t', g1, g2, g3⟩ := ih tl e1.2 e2.2 (e3.2 ha)
          refine ⟨off, t', ?_, g2, g3⟩
          rw [← g1]
          exact lv_osw ha e2.1
  obtain ⟨off, t, g1, g2, g3⟩ := key _ _ h1 h3 hsw
  intro p l e R s m args below meth c b sa cs D Qc hC hret H locs la hR hS hl
  have h9 := hκ t g3 p l e R s m args below meth c b sa cs D Qc hC hret H locs la hR hS hl
  obtain ⟨-, hx, hb, -⟩ := id hC
  exact lv_lookup hx hb hd h2 g1 g2 h9
theorem s_swT {dflt lo hi : Int} {offs : Array Int} {len x y : Nat} {ps : List Nat} {c' : Int32} {d' : Int64} {a : Int32} {r : List Value} (hd : decode (bT j) pc = .ok (.tableswitch dflt lo hi offs, len)) (hs : sideB j pc (.tableswitch dflt lo hi offs) x y ps c' d' = true)
    {κ : Nat → Prop} (hκ : ∀ t, κ t → A z j n k sl h t ls r Q) (hsw : swT a κ (ps.getD 0 0) c' (ps.drop 1)) : A z j n k sl h pc ls (.int a :: r) Q := by
  simp only [sideB, Bool.and_eq_true, decide_eq_true_eq] at hs
  obtain ⟨⟨⟨h0, h1⟩, h2⟩, h3, hsm⟩ := hs
  have key : ∀ (ol : List Int) (tl : List Nat) (a0 : Int32), ol.map (fun o => (pc : Int) + o) = tl.map (fun t : Nat => (t : Int)) → a0.toInt + ol.length < 2147483648 → swT a κ (ps.getD 0 0) a0 tl → ((a.toInt < a0.toInt ∨ a0.toInt + ol.length ≤ a.toInt) ∧ κ (ps.getD 0 0)) ∨ (¬ a.toInt < a0.toInt ∧ ∃ (off : Int) (t : Nat), ol[(a.toInt - a0.toInt).toNat]? = some off ∧ (pc : Int) + off = (t : Int) ∧ κ t) := by
    intro ol
    induction ol with
    | nil =>
      intro tl a0 e1 e2 e3
      cases tl with
      | nil => left; exact ⟨by simp; omega, e3⟩
      | cons t tl => simp at e1
    | cons o ol ih =>
      intro tl a0 e1 e2 e3
      cases tl with
      | nil => simp at e1
      | cons t tl =>
        simp only [List.map_cons, List.cons.injEq] at e1
        simp only [swT] at e3
        simp only [List.length_cons, Int.natCast_add, Int.cast_ofNat_Int] at e2 ⊢
        by_cases ha : a = a0
        · right
          subst ha
          exact ⟨by omega, o, t, by simp, e1.1, e3.1 rfl⟩
        · have hne : a.toInt ≠ a0.toInt := fun q => ha (Int32.toInt_inj.mp q)
          have hs1 : (a0 + 1).toInt = a0.toInt + 1 := by
            have := Int32.toInt_add a0 1
            have h1 : (1 : Int32).toInt = 1 := by decide
            rw [h1] at this
            rw [this, Int.bmod_eq_of_le]
            · have := Int32.le_toInt a0; omega
            · omega
          rcases ih tl (a0 + 1) e1.2 (by rw [hs1]; omega) (e3.2 ha) with ⟨g1, g2⟩ | ⟨g1, off, t', g2, g3, g4⟩
          · left
            rw [hs1] at g1
            exact ⟨by omega, g2⟩
          · right
            rw [hs1] at g1 g2
            refine ⟨by omega, off, t', ?_, g3, g4⟩
            have hz : (a.toInt - a0.toInt).toNat = (a.toInt - (a0.toInt + 1)).toNat + 1 := by omega
            rw [hz, List.getElem?_cons_succ]
            exact g2
  intro p l e R s m args below meth c b sa cs D Qc hC hret H locs la hR hS hl
  obtain ⟨-, hx, hb, -⟩ := id hC
  have hln : offs.toList.length = offs.size := Array.length_toList
  rcases key offs.toList (ps.drop 1) c' h1 (by rw [hln]; exact hsm) hsw with ⟨g1, g2⟩ | ⟨g1, off, t, g2, g3, g4⟩
  · rw [← h3, hln] at g1
    exact lv_tableOut hx hb hd (by omega) h0 (hκ _ g2 p l e R s m args below meth c b sa cs D Qc hC hret H locs la hR hS hl)
  · rw [← h3] at g1 g2
    have hlt := (List.getElem?_eq_some_iff.mp g2).1
    rw [hln] at hlt
    exact lv_tableIn hx hb hd g1 (by omega) (by rw [← Array.getElem?_toList]; exact g2) g3 (hκ _ g4 p l e R s m args below meth c b sa cs D Qc hC hret H locs la hR hS hl)
/-! the end of a method -/
theorem s_ret {v : Option Value} (hr : RetI j v pc) (h1 : k ≤ mcT j) (h2 : sl ≤ msT j) (hQ : Q v n h) : A z j n k sl h pc ls v.toList Q := by
  intro p l e R s m args below meth c b sa cs D Qc hC hret H locs la hR hS hl
  exact hret pc la v n h H locs k sl hQ h1 h2 hR hS hr
end Calls2
