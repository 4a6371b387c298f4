/-! THE CLAIM OUT OF ONE WALK OF THE LAW'S BODY. Your part is whole_start (and what it stands on); all else here is the same for every law, but numbers. -/
def R_law : String := "GrownAsksLaw"
def lw_P (b : Addr) (xs : List Int32) (args : Array Value) (s : State) : Prop := args = #[.ref b] ∧ s.IntsAt b xs ∧ xs.length ≤ 3072 ∧ (Jvm.Cond.and given_1 narrow_1).before args s = true
def lw_Q (_ : Array Value) (s : State) (o : Outcome) (t : State) : Prop := o = .returned (some (.int 1)) ∧ Framed s o t [] 600000 7302250
def lw_Z (below : List Frame) (a : Array Value) (s : State) : State → Prop := fun t => ∃ o, t.status = .running ∧ Ended t below o ∧ lw_Q a s o t
/-- the law's own end, with 1 on the stack, nothing written that was there before, its room as the claim has it -/
theorem lw_ret {p : Program} {l : Launch} {e : Env} {s : State} {m : MethodId} {below : List Frame} {meth : Method} {c : Code} {b : Nat} (hx : p.tables.exec = Jvm.exec) (hb : c.code = code) (hr : meth.sig.returnType = ret) (hlocks : meth.locks = false) {pc : Nat} {H : Heap} {ls : Array Slot} (hdg : decode code pc = .ok (.ireturn, 1)) : W p l e room_1 s m #[Value.ref b] below meth c H [] 600000 7302250 (lw_Z below #[Value.ref b] s) (F0 m pc ls [.int 1]) := by
  intro T hT X
  obtain ⟨fs, hret, hrun, hended, hW, hframe⟩ := X.leave (v := some (.int 1)) (hlocks := hlocks) (fun h => by rw [hr] at h; cases h)
  have hmeth' : T.vm.method? m = some meth := X.method'
  refine ⟨T.setFrames fs, ?_, .returned (some (.int 1)), hrun, hended, rfl, ⟨_, rfl⟩, hW, hframe⟩
  jvm_step X.here [X.here.top, hx, hb, hdg, hmeth', hr, ret, narrow_b1]
  (try refine ⟨rfl, ?_⟩); (try refine ⟨rfl, ?_⟩)
  first | (intro acts; rw [hret _ acts rfl rfl rfl]) | rw [hret _ _ rfl rfl rfl]
  exact Steps.refl _
/-- what holds at the law's entry: the machine, the code, the tables' words (any of lw_tbl by 'hts w (by decide +kernel)'), the script of L ints xs at the cell b, what the Statement gives of the start (any of its parts by flat_of_before) -/
def lw_At (p : Program) (s : State) (m : MethodId) (meth : Method) (c : Code) (b L : Nat) (xs : Nat → Int32) : Prop :=
  p.tables.exec = Jvm.exec ∧ c.code = code ∧ meth.sig.returnType = ret ∧ c.maxLocals = 4 ∧ s.vm.findClass R_law = some m.cls ∧ (∀ w ∈ lw_tbl, w.before #[Value.ref b] s = true) ∧ va_X b L xs s s.heap ∧ b < s.heap.size ∧ meth.locks = false ∧ (Jvm.Cond.and given_1 narrow_1).before #[Value.ref b] s = true
-- ===== YOUR PART BEGINS =====
set_option maxRecDepth 100000 in
theorem st_inst : ∀ q ∈ vwCl, Cond.instantiable q.1 q.2.2 ∈ lw_tbl := by decide +kernel
set_option maxRecDepth 100000 in
theorem st_nest : ∀ w ∈ nestW, w ∈ lw_tbl := by decide +kernel
theorem st_nest2 : ∀ w ∈ nestW, w.onTables = true := by decide +kernel
/-- the classes and the arrays' classes, as the tables have them -/
theorem st_K {b : Nat} {s : State} (hts : ∀ w ∈ lw_tbl, w.before #[Value.ref b] s = true) : ∃ (cs : aCS) (D : va_G), va_K D vwCl (aTy cs) s := by
  have hk : ∀ c : Nat, ∃ q : ClassId × (Nat → Nat), ∀ r : vw_C, vwCl[c]? = some r → u_Kn s r.1 r.2.1 r.2.2 q.1 q.2 := by
    intro c
    cases hq : vwCl[c]? with
    | none => exact ⟨((0 : Nat), fun _ => 0), fun r h => by cases h⟩
    | some q0 =>
      obtain ⟨cC, iS, h⟩ := u_known (C := q0.1) (T := q0.2.1) (N := q0.2.2) (n := q0.2.2) hts (fun w hw => (List.mem_filter.mp (clsW c q0 hq w hw)).1) (hts _ (st_inst q0 (List.mem_of_getElem? hq)))
      exact ⟨(cC, iS), fun r h' => by cases h'; exact h⟩
  obtain ⟨c0, k0, p0, f0, g0, e0⟩ := Cond.arrayClass_spec (hts (.arrayClass .int) (by decide +kernel))
  obtain ⟨c1, k1, p1, f1, g1, e1⟩ := Cond.arrayClass_spec (hts (.arrayClass .long) (by decide +kernel))
  obtain ⟨p2, c2, k2, i2, j2, g2, e2, f2⟩ := Cond.arrayOver_spec (hts (.arrayOver (.object "GrownAsks$Sheet")) (by decide +kernel))
  refine ⟨(c0, c1, c2), (fun c => (Classical.choose (hk c)).1, fun c => (Classical.choose (hk c)).2), fun c q hq => Classical.choose_spec (hk c) q hq, fun k q hq => ?_⟩
  match k, hq with
  | 0, hq =>
    have hq : some ((c0 : ClassId), FieldType.int) = some q := hq
    cases hq
    exact ⟨fun n z => ⟨fun k h => (by cases h), k0, g0, p0, e0⟩, f0⟩
  | 1, hq =>
    have hq : some ((c1 : ClassId), FieldType.long) = some q := hq
    cases hq
    exact ⟨fun n z => ⟨fun k h => (by cases h), k1, g1, p1, e1⟩, f1⟩
  | 2, hq =>
    have hq : some ((c2 : ClassId), FieldType.object "GrownAsks$Sheet") = some q := hq
    cases hq
    exact ⟨fun n z => ⟨fun k h => (by cases h), k2, g2, p2, e2⟩, k2, p2, g2, e2, i2, f2⟩
  | k + 3, hq =>
    have hq : none = some q := hq
    cases hq
set_option maxRecDepth 100000 in
set_option maxHeartbeats 1000000 in
/-- tables and static arrays at the start -/
theorem st_WO {s : State} {b L : Nat} {xs : Nat → Int32} (hts : ∀ w ∈ lw_tbl, w.before #[Value.ref b] s = true) (hX : va_X b L xs s s.heap) (hbl : b < s.heap.size) (hgv : (Jvm.Cond.and given_1 narrow_1).before #[Value.ref b] s = true) : ∃ (sa : Nat → Nat) (cs : aCS) (D : va_G), sa 3 = b ∧ WO (L, xs) s.heap.size sa cs D s := by
  have hA : ∀ a : Nat, a < s.heap.size → ¬ (fun q : Nat => s.heap.size ≤ q) a := fun a h q => absurd h (Nat.not_lt.mpr q)
  have hs := flat_of_before _ hgv
  obtain ⟨cs, D, hK⟩ := st_K hts
  have hel0 : ∀ j : Nat, j < 6 → (Term.elem (.static "GrownAsks$Smalls" "A_OF" "[I") (.int (Int32.ofNat j))).eval #[Value.ref b] s none [] s = some (.int (sA0 j)) := by
    intro j hj
    match j, hj with
    | 0, _ => exact va_eqt (hs (Cond.eq (.elem (.static "GrownAsks$Smalls" "A_OF" "[I") (.int 0)) (.int (-100))) (by decide +kernel))
    | 1, _ => exact va_eqt (hs (Cond.eq (.elem (.static "GrownAsks$Smalls" "A_OF" "[I") (.int 1)) (.int 0)) (by decide +kernel))
    | 2, _ => exact va_eqt (hs (Cond.eq (.elem (.static "GrownAsks$Smalls" "A_OF" "[I") (.int 2)) (.int 1)) (by decide +kernel))
    | 3, _ => exact va_eqt (hs (Cond.eq (.elem (.static "GrownAsks$Smalls" "A_OF" "[I") (.int 3)) (.int (-100))) (by decide +kernel))
    | 4, _ => exact va_eqt (hs (Cond.eq (.elem (.static "GrownAsks$Smalls" "A_OF" "[I") (.int 4)) (.int 0)) (by decide +kernel))
    | 5, _ => exact va_eqt (hs (Cond.eq (.elem (.static "GrownAsks$Smalls" "A_OF" "[I") (.int 5)) (.int 1)) (by decide +kernel))
    | k + 6, hj => omega
  obtain ⟨t0, e0, T0⟩ := va_Tof (tm := .static "GrownAsks$Smalls" "A_OF" "[I") (ty := .int) (N := 6) (f := fun j => .int (sA0 j)) (A := fun q : Nat => s.heap.size ≤ q) (by decide) (hs (Cond.arrayOf (.static "GrownAsks$Smalls" "A_OF" "[I") .int) (by decide +kernel)) (va_eqt (hs (Cond.eq (.length (.static "GrownAsks$Smalls" "A_OF" "[I")) (.int 6)) (by decide +kernel))) hel0 hA
  have Z0 := va_Zref (hts (.laysStatic "GrownAsks$Smalls" "A_OF" "[I") (by decide +kernel)) (hts (.initialized "GrownAsks$Smalls") (by decide +kernel)) e0 hA
  have hel1 : ∀ j : Nat, j < 6 → (Term.elem (.static "GrownAsks$Smalls" "B_OF" "[I") (.int (Int32.ofNat j))).eval #[Value.ref b] s none [] s = some (.int (sA1 j)) := by
    intro j hj
    match j, hj with
    | 0, _ => exact va_eqt (hs (Cond.eq (.elem (.static "GrownAsks$Smalls" "B_OF" "[I") (.int 0)) (.int (-100))) (by decide +kernel))
    | 1, _ => exact va_eqt (hs (Cond.eq (.elem (.static "GrownAsks$Smalls" "B_OF" "[I") (.int 1)) (.int (-100))) (by decide +kernel))
    | 2, _ => exact va_eqt (hs (Cond.eq (.elem (.static "GrownAsks$Smalls" "B_OF" "[I") (.int 2)) (.int (-100))) (by decide +kernel))
    | 3, _ => exact va_eqt (hs (Cond.eq (.elem (.static "GrownAsks$Smalls" "B_OF" "[I") (.int 3)) (.int 0)) (by decide +kernel))
    | 4, _ => exact va_eqt (hs (Cond.eq (.elem (.static "GrownAsks$Smalls" "B_OF" "[I") (.int 4)) (.int 0)) (by decide +kernel))
    | 5, _ => exact va_eqt (hs (Cond.eq (.elem (.static "GrownAsks$Smalls" "B_OF" "[I") (.int 5)) (.int 0)) (by decide +kernel))
    | k + 6, hj => omega
  obtain ⟨t1, e1, T1⟩ := va_Tof (tm := .static "GrownAsks$Smalls" "B_OF" "[I") (ty := .int) (N := 6) (f := fun j => .int (sA1 j)) (A := fun q : Nat => s.heap.size ≤ q) (by decide) (hs (Cond.arrayOf (.static "GrownAsks$Smalls" "B_OF" "[I") .int) (by decide +kernel)) (va_eqt (hs (Cond.eq (.length (.static "GrownAsks$Smalls" "B_OF" "[I")) (.int 6)) (by decide +kernel))) hel1 hA
  have Z1 := va_Zref (hts (.laysStatic "GrownAsks$Smalls" "B_OF" "[I") (by decide +kernel)) (hts (.initialized "GrownAsks$Smalls") (by decide +kernel)) e1 hA
  have hel2 : ∀ j : Nat, j < 7 → (Term.elem (.static "GrownAsks" "SIGNS" "[I") (.int (Int32.ofNat j))).eval #[Value.ref b] s none [] s = some (.int (sA2 j)) := by
    intro j hj
    match j, hj with
    | 0, _ => exact va_eqt (hs (Cond.eq (.elem (.static "GrownAsks" "SIGNS" "[I") (.int 0)) (.int 38)) (by decide +kernel))
    | 1, _ => exact va_eqt (hs (Cond.eq (.elem (.static "GrownAsks" "SIGNS" "[I") (.int 1)) (.int 124)) (by decide +kernel))
    | 2, _ => exact va_eqt (hs (Cond.eq (.elem (.static "GrownAsks" "SIGNS" "[I") (.int 2)) (.int 33)) (by decide +kernel))
    | 3, _ => exact va_eqt (hs (Cond.eq (.elem (.static "GrownAsks" "SIGNS" "[I") (.int 3)) (.int 63)) (by decide +kernel))
    | 4, _ => exact va_eqt (hs (Cond.eq (.elem (.static "GrownAsks" "SIGNS" "[I") (.int 4)) (.int 60)) (by decide +kernel))
    | 5, _ => exact va_eqt (hs (Cond.eq (.elem (.static "GrownAsks" "SIGNS" "[I") (.int 5)) (.int 61)) (by decide +kernel))
    | 6, _ => exact va_eqt (hs (Cond.eq (.elem (.static "GrownAsks" "SIGNS" "[I") (.int 6)) (.int 62)) (by decide +kernel))
    | k + 7, hj => omega
  obtain ⟨t2, e2, T2⟩ := va_Tof (tm := .static "GrownAsks" "SIGNS" "[I") (ty := .int) (N := 7) (f := fun j => .int (sA2 j)) (A := fun q : Nat => s.heap.size ≤ q) (by decide) (hs (Cond.arrayOf (.static "GrownAsks" "SIGNS" "[I") .int) (by decide +kernel)) (va_eqt (hs (Cond.eq (.length (.static "GrownAsks" "SIGNS" "[I")) (.int 7)) (by decide +kernel))) hel2 hA
  have Z2 := va_Zref (hts (.laysStatic "GrownAsks" "SIGNS" "[I") (by decide +kernel)) (hts (.initialized "GrownAsks") (by decide +kernel)) e2 hA
  have T3 : va_T .int b L (fun j => .int (xs j)) (fun q : Nat => s.heap.size ≤ q) s s.heap := by
    obtain ⟨scr, h1, h2, h3, h4, h5⟩ := hX
    exact ⟨scr, h1, h2, h3, by omega, by rw [h4], h5, hA b hbl⟩
  refine ⟨fun i => if i = 0 then t0 else if i = 1 then t1 else if i = 2 then t2 else b, cs, D, rfl, Nat.le_refl _, hK, fun w hw => va_Nw.of (st_nest2 w hw) (hts w (st_nest w hw)), fun i hi => ?_, fun i hi => ?_, va_AO.of (hts (.arrayOver (.object "GrownAsks$Sheet")) (by decide +kernel))⟩
  · match i, hi with
    | 0, _ => exact Z0
    | 1, _ => exact Z1
    | 2, _ => exact Z2
    | k + 3, hi => omega
  · match i, hi with
    | 0, _ => exact T0
    | 1, _ => exact T1
    | 2, _ => exact T2
    | 3, _ => exact T3
    | k + 4, hi => omega
set_option maxRecDepth 100000 in
set_option maxHeartbeats 1000000 in
theorem whole_start {p : Program} {e : Env} {s : State} {m : MethodId} {below : List Frame} {meth : Method} {c : Code} (l : Launch) (hflags : l.flags = flags0) {b L : Nat} {xs : Nat → Int32} (hL : L ≤ 3072) (C0 : lw_At p s m meth c b L xs) : W p l e room_1 s m #[Value.ref b] below meth c s.heap [] 0 0 (lw_Z below #[Value.ref b] s) (entryFrame m ([Value.ref b] : List Value).toArray 4) := by
  obtain ⟨hx, hb, hr, hml, hown, hts, hX, hbl, hlocks, hgv⟩ := C0
  obtain ⟨sa, cs, D, hsa, hWO⟩ := st_WO hts hX hbl hgv
  have ec : bT 0 = code := by simp only [bT, Nat.reduceLT, ↓reduceIte]
  have hlv := lv_entry ([.ref b]) (n := 4) (Nat.le_of_ble_eq_true rfl)
  rw [lg_entry_eq]
  generalize (lg_sl ([.ref b]) ++ List.replicate (4 - (lg_sl ([.ref b])).length) Slot.unset).toArray = la at hlv ⊢
  have el : lsA (aV s.heap.size sa) 0 [some (.float 3), none, none, none] = [(0, .ref b)] := by rw [← hsa]; rfl
  have hlv2 : lv_has la (mlT 0) (lsA (aV s.heap.size sa) 0 [some (.float 3), none, none, none]) := by rw [el]; exact hlv
  have hall := law_all (z := (L, xs)) (Q := fun v _ _ => v = some (.int 1)) hL (fun _ => rfl)
  refine hall p l e room_1 s m #[Value.ref b] below meth c s.heap.size sa cs D (lw_Z below #[Value.ref b] s) ⟨kCL_law, hx, hb.trans ec.symm, hr, hml, hown, fun w hw => hts w (List.mem_filter.mp hw).1, hlocks, fun h => absurd h (by decide), hWO, Nat.le_of_ble_eq_true rfl, Nat.le_of_ble_eq_true rfl, rfl, rfl⟩ ?_ s.heap [] la ⟨rfl, fun k c h => by simp at h⟩ va_S.rf hlv2
  intro pc' la v n' h' H locs k' sl' hQ h1 h2 hR' hS' hret
  have hQ : v = some (.int 1) := hQ
  subst hQ
  obtain ⟨g1, g2⟩ := hret
  rw [ec] at g1
  refine va_forget (fun q hq => hS'.2.2 q hq) ?_
  exact W.widen (k := 600000) (n := 7302250) h1 h2 (lw_ret hx hb hr hlocks g1)
-- ===== YOUR PART ENDS =====
