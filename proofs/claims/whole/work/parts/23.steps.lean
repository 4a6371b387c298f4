section Steps
variable {z : aZ} {j n k sl : Nat} {h : aH} {pc : Nat} {ls : List (Option Value)} {st : List Value} {Q : aQ}
/-- an instruction that keeps heap and locals -/
theorem A_pure {pc' : Nat} {st' : List Value} (f : ∀ (p : Program) (l : Launch) (e : Env) (R : Room) (s : State) (m : MethodId) (args : Array Value) (below : List Frame) (meth : Method) (c : Code) (b : Nat) (sa : Nat → Nat) (Qc : State → Prop) (H : Heap) (locs : List Loc) (la : Array Slot), p.tables.exec = Jvm.exec → c.code = bT j → s.vm.findClass (yT j).cls = some m.cls → (∀ w ∈ tblG, w.before args s = true) → lv_has la (mlT j) (lsA (aV b sa) 0 ls) → W p l e R s m args below meth c H locs k sl Qc (F0 m pc' la (st'.map (aV b sa))) → W p l e R s m args below meth c H locs k sl Qc (F0 m pc la (st.map (aV b sa))))
    (hk : A z j n k sl h pc' ls st' Q) : A z j n k sl h pc ls st Q := by
  intro p l e R s m args below meth c b sa cs D Qc hC hret H locs la hR hS hl
  have h0 := hk p l e R s m args below meth c b sa cs D Qc hC hret H locs la hR hS hl
  obtain ⟨-, hx, hb, -, -, hown, hts, -⟩ := hC
  exact f p l e R s m args below meth c b sa Qc H locs la hx hb hown hts hl h0
/-- a store into a local -/
theorem A_st1 {pc' i : Nat} {v : Value} {st' : List Value} (hi : i < ls.length ∧ okS ls i = true) (hml : ls.length ≤ mlT j)
    (f : ∀ (p : Program) (l : Launch) (e : Env) (R : Room) (s : State) (m : MethodId) (args : Array Value) (below : List Frame) (meth : Method) (c : Code) (b : Nat) (sa : Nat → Nat) (Qc : State → Prop) (H : Heap) (locs : List Loc) (la : Array Slot), p.tables.exec = Jvm.exec → c.code = bT j → i < mlT j → lv_has la (mlT j) (lsA (aV b sa) 0 ls) →
      (∀ la' : Array Slot, lv_has la' (mlT j) ((i, aV b sa v) :: (lsA (aV b sa) 0 ls).filter (fun q => !(q.1 == i) && !(q.1 + 1 == i && q.2.category == 2))) → W p l e R s m args below meth c H locs k sl Qc (F0 m pc' la' (st'.map (aV b sa)))) → W p l e R s m args below meth c H locs k sl Qc (F0 m pc la (st.map (aV b sa))))
    (hk : A z j n k sl h pc' (ls.set i (some v)) st' Q) : A z j n k sl h pc ls st Q := by
  intro p l e R s m args below meth c b sa cs D Qc hC hret H locs la hR hS hl
  have h0 := hk p l e R s m args below meth c b sa cs D Qc hC hret H locs
  obtain ⟨-, hx, hb, -⟩ := hC
  exact f p l e R s m args below meth c b sa Qc H locs la hx hb (Nat.lt_of_lt_of_le hi.1 hml) hl fun la' h' => h0 la' hR hS (lsA_st1 hi.2 h')
theorem A_st2 {pc' i : Nat} {v : Value} {st' : List Value} (hi : i + 1 < ls.length ∧ okS ls i = true) (hml : ls.length ≤ mlT j)
    (f : ∀ (p : Program) (l : Launch) (e : Env) (R : Room) (s : State) (m : MethodId) (args : Array Value) (below : List Frame) (meth : Method) (c : Code) (b : Nat) (sa : Nat → Nat) (Qc : State → Prop) (H : Heap) (locs : List Loc) (la : Array Slot), p.tables.exec = Jvm.exec → c.code = bT j → i + 1 < mlT j → lv_has la (mlT j) (lsA (aV b sa) 0 ls) →
      (∀ la' : Array Slot, lv_has la' (mlT j) ((i, aV b sa v) :: (lsA (aV b sa) 0 ls).filter (fun q => !(q.1 == i) && (!(q.1 == i + 1) && !(q.1 + 1 == i && q.2.category == 2)))) → W p l e R s m args below meth c H locs k sl Qc (F0 m pc' la' (st'.map (aV b sa)))) → W p l e R s m args below meth c H locs k sl Qc (F0 m pc la (st.map (aV b sa))))
    (hk : A z j n k sl h pc' ((ls.set i (some v)).set (i + 1) none) st' Q) : A z j n k sl h pc ls st Q := by
  intro p l e R s m args below meth c b sa cs D Qc hC hret H locs la hR hS hl
  have h0 := hk p l e R s m args below meth c b sa cs D Qc hC hret H locs
  obtain ⟨-, hx, hb, -⟩ := hC
  exact f p l e R s m args below meth c b sa Qc H locs la hx hb (Nat.lt_of_lt_of_le hi.1 hml) hl fun la' h' => h0 la' hR hS (lsA_st2 hi.2 h')
/-- the locals are no more than the method's -/
theorem A_len (hk : ls.length ≤ mlT j → A z j n k sl h pc ls st Q) (hl : ls.length ≤ mlT j) : A z j n k sl h pc ls st Q := hk hl
theorem A_okC (hk : okC j → A z j n k sl h pc ls st Q) : A z j n k sl h pc ls st Q := by
  intro p l e R s m args below meth c b sa cs D Qc hC
  exact hk hC.1 p l e R s m args below meth c b sa cs D Qc hC
/-! branches -/
theorem s_cI {cd : ClassFile.Cond} {off : Int} {x : Nat} {a b : Int32} {r : List Value} (hd : decode (bT j) pc = .ok (.if_icmp cd off, 3)) (ht : (pc : Int) + off = (x : Int)) {kt kf : Prop} (h1 : kt → A z j n k sl h x ls r Q) (h2 : kf → A z j n k sl h (pc + 3) ls r Q) (hc : cI cd a b kt kf) : A z j n k sl h pc ls (.int b :: .int a :: r) Q := by
  intro p l e R s m args below meth c bb sa cs D Qc hC hret H locs la hR hS hl
  obtain ⟨-, hx, hb, -⟩ := id hC
  have t1 := fun q => h1 q p l e R s m args below meth c bb sa cs D Qc hC hret H locs la hR hS hl
  have t2 := fun q => h2 q p l e R s m args below meth c bb sa cs D Qc hC hret H locs la hR hS hl
  cases cd with
  | eq => exact lv_icmp_eq hx hb hd ht (fun q => t1 (hc.1 q)) (fun q => t2 (hc.2 q))
  | ne => exact lv_icmp_ne hx hb hd ht (fun q => t1 (hc.1 q)) (fun q => t2 (hc.2 q))
  | lt => exact lv_icmp_lt hx hb hd ht (fun q => t1 (hc.1 q)) (fun q => t2 (hc.2 q))
  | ge => exact lv_icmp_ge hx hb hd ht (fun q => t1 (hc.1 q)) (fun q => t2 (hc.2 q))
  | gt => exact lv_icmp_gt hx hb hd ht (fun q => t1 (hc.1 q)) (fun q => t2 (hc.2 q))
  | le => exact lv_icmp_le hx hb hd ht (fun q => t1 (hc.1 q)) (fun q => t2 (hc.2 q))
theorem s_if {cd : ClassFile.Cond} {off : Int} {x : Nat} {a : Int32} {r : List Value} (hd : decode (bT j) pc = .ok (.ifCond cd off, 3)) (ht : (pc : Int) + off = (x : Int)) {kt kf : Prop} (h1 : kt → A z j n k sl h x ls r Q) (h2 : kf → A z j n k sl h (pc + 3) ls r Q) (hc : cI cd a 0 kt kf) : A z j n k sl h pc ls (.int a :: r) Q := by
  intro p l e R s m args below meth c bb sa cs D Qc hC hret H locs la hR hS hl
  obtain ⟨-, hx, hb, -⟩ := id hC
  have t1 := fun q => h1 q p l e R s m args below meth c bb sa cs D Qc hC hret H locs la hR hS hl
  have t2 := fun q => h2 q p l e R s m args below meth c bb sa cs D Qc hC hret H locs la hR hS hl
  cases cd with
  | eq => exact lv_if_eq hx hb hd ht (fun q => t1 (hc.1 q)) (fun q => t2 (hc.2 q))
  | ne => exact lv_if_ne hx hb hd ht (fun q => t1 (hc.1 q)) (fun q => t2 (hc.2 q))
  | lt => exact lv_if_lt hx hb hd ht (fun q => t1 (hc.1 q)) (fun q => t2 (hc.2 q))
  | ge => exact lv_if_ge hx hb hd ht (fun q => t1 (hc.1 q)) (fun q => t2 (hc.2 q))
  | gt => exact lv_if_gt hx hb hd ht (fun q => t1 (hc.1 q)) (fun q => t2 (hc.2 q))
  | le => exact lv_if_le hx hb hd ht (fun q => t1 (hc.1 q)) (fun q => t2 (hc.2 q))
/-! fields -/
theorem fldB_spec {idx x y p : Nat} (hf : fldB j idx x y p = true) : ∃ q : vw_C, vwCl[x]? = some q ∧ y < q.2.2 ∧ Cond.fieldLink (yT j).cls idx (q.2.1 y).1 (q.2.1 y).2.1 (q.2.1 y).2.2.1 ∈ tblG := by
  unfold fldB at hf
  cases hq : vwCl[x]? with
  | none => rw [hq] at hf; cases hf
  | some q =>
    rw [hq] at hf
    simp only [Bool.and_eq_true, decide_eq_true_eq] at hf
    exact ⟨q, rfl, hf.1, wAt_mem hf.2⟩
theorem s_getf {idx x y p a : Nat} {fs : List Value} {v : Value} {r : List Value} (hd : decode (bT j) pc = .ok (.getfield idx, 3)) (hf : fldB j idx x y p = true) (ha : h a = some (.inl (x, fs))) (hv : fs[y]? = some v) (hk : A z j n k sl h (pc + 3) ls (v :: r) Q) : A z j n k sl h pc ls (.ref a :: r) Q := by
  intro p l e R s m args below meth c b sa cs D Qc hC hret H locs la hR hS hl
  have h0 := hk p l e R s m args below meth c b sa cs D Qc hC hret H locs la hR hS hl
  obtain ⟨-, hx, hb, -, -, hown, hts, -, -, hWO, -⟩ := hC
  obtain ⟨⟨C, T, N⟩, hq, hy, hm⟩ := fldB_spec hf
  exact va_get (D := D) (cl := vwCl) (tys := aTy cs) (ws := [(b + a, .inr (x, fs.map (aV b sa)))]) (ci := x) (v := aV b sa v) (C := C) (T := T) (N := N) hx hb hts (clsW x _ hq) hown hWO.2.1 (hR.P1 ha) 0 rfl hq y hy (hts _ hm) (fun _ h9 => h9) (by rw [List.getElem?_map, hv]; rfl) hd h0
theorem s_putf {idx x y a : Nat} {ps : List Nat} {fs : List Value} {v : Value} {r : List Value} {c' : Int32} {d' : Int64} (hd : decode (bT j) pc = .ok (.putfield idx, 3)) (hsd : sideB j pc (.putfield idx) x y ps c' d' = true) (ha : h a = some (.inl (x, fs))) (hl0 : y < fs.length) (hfit : ∀ (b : Nat) (sa : Nat → Nat) (ty : FieldType), tcOk (ps.getD 1 0) ty = true → narrow ty (aV b sa v) = aV b sa v ∧ fits ty (aV b sa v) = true)
    (hk : A z j n k sl (hset h a (.inl (x, fs.set y v))) (pc + 3) ls r Q) : A z j n k sl h pc ls (v :: .ref a :: r) Q := by
  intro p1 l e R s m args below meth c b sa cs D Qc hC hret H locs la hR hS hl
  have h0 := hk p1 l e R s m args below meth c b sa cs D Qc hC hret
  obtain ⟨-, hx, hb, -, -, hown, hts, -, hini, hWO, -⟩ := hC
  simp only [sideB, Bool.and_eq_true] at hsd
  obtain ⟨hf, hsd⟩ := hsd
  obtain ⟨⟨C, T, N⟩, hq, hy, hm⟩ := fldB_spec hf
  rw [hq] at hsd
  simp only [Bool.and_eq_true] at hsd
  obtain ⟨htc, hsd⟩ := hsd
  have hK := hWO.2.1
  have hin := clsW x _ hq
  have hty := clsT x _ hq
  have hnm := clsN x _ hq
  dsimp only at hin hty hnm hy hm hsd
  have hap := va_apart (D := D) (own := C) hts hin (tyT x) hty hnm hK hq
  obtain ⟨r1, h1, cell, q1, q2, q3, q4⟩ := hR.2 a _ ha
  have hr : r1 = (C, T, N) := Option.some.inj (h1.symm.trans hq)
  subst hr
  obtain ⟨hSS, hfc, kC, hkC, hkind⟩ := hK.1 x _ hq
  obtain ⟨cf, kf, fi, fd, hi, hsl⟩ := hSS y hy
  have hlay := hts _ (hin _ (u_in_lay hy))
  unfold u_lay at hlay
  have hst := (u_facts hfc hkC (u_lays hts hin hy) hi).1
  obtain ⟨hn9, hfit9⟩ := hfit b sa _ htc
  dsimp only at q1 q2 q4
  have hfin : ∀ H' : Heap, H'[b + a]? = some (cell.setSlot fd.slot (aV b sa v)) → H'.size = H.size → (∀ q, q ≠ b + a → H'[q]? = H[q]?) → W p1 l e R s m args below meth c H' (locs ++ [⟨b + a, fd.slot⟩]) k sl Qc (F0 m (pc + 3) la (r.map (aV b sa))) := by
    intro H' e1 e2 e3
    rw [hsl] at e1 ⊢
    refine h0 H' _ la (hR.upd e2 e3 ⟨_, hq, ?_⟩) (hS.put e2 e3 (Nat.le_add_right b a)) hl
    rw [List.map_set]
    exact t_OB.to (V := updV (vp_V (fs.map (aV b sa))) y (aV b sa v)) ⟨_, e1, q2, q3, t_set q4 hap hy _⟩ (fun j _ => vp_updV_set (by rw [List.length_map]; exact hl0) _ j)
  by_cases h1f : ps.getD 2 0 = 1
  · rw [if_pos h1f] at hsd
    simp only [Bool.and_eq_true, decide_eq_true_eq] at hsd
    rw [if_pos hsd.1.1] at hlay
    have hcf : m.cls = cf := by
      obtain ⟨_, _, c', _, _, _, -, -, hf', -, -, -, hown2, -⟩ := Cond.laysFinal_spec hlay
      have e1 : c' = cf := by have := hi.symm.trans hf'; simp at this; exact this.1.symm
      rw [hsd.2] at hown2
      rw [← e1]; exact Option.some.inj (hown.symm.trans hown2)
    have h6 := u_fits hfc hkC hkind (Or.inr hlay) hi (hty y hy) hn9 hfit9
    exact W.putFinK hx hb hown (hts _ hm) hi hst hcf (hini hsd.1.2) (by rw [q2]; exact h6) q1 q3 (by rw [hsl]; exact k2_hasslot (q4 y hy)) rfl rfl hd hfin
  · rw [if_neg h1f] at hsd
    simp only [decide_eq_true_eq] at hsd
    rw [if_neg (by rw [hsd]; decide)] at hlay
    have h6 := u_store hfc hkC hkind hlay hi (hty y hy) hn9 hfit9
    exact W.putK hx hb (f := fd) ⟨hown, hts _ hm, ⟨_, _, _, hi⟩, hst⟩ (by rw [q2]; exact h6) q1 q3 (by rw [hsl]; exact k2_hasslot (q4 y hy)) rfl rfl hd hfin
/-! arrays -/
theorem s_iald {a m : Nat} {f : Nat → Int32} {i : Int32} {r : List Value} (hd : decode (bT j) pc = .ok (.iaload, 1)) (ha : h a = some (.inr (m, .inl f))) (hin : vp_in i m) (hk : A z j n k sl h (pc + 1) ls (.int (f i.toNatClampNeg) :: r) Q) : A z j n k sl h pc ls (.int i :: .ref a :: r) Q := by
  intro p l e R s m' args below meth c b sa cs D Qc hC hret H locs la hR hS hl
  have h0 := hk p l e R s m' args below meth c b sa cs D Qc hC hret H locs la hR hS hl
  obtain ⟨-, hx, hb, -, -, hown, hts, -, -, hWO, -⟩ := hC
  exact va_iald (D := D) (cl := vwCl) (tys := aTy cs) (ws := [(b + a, .inl (cs.1, m, .inl f))]) hx hb hWO.2.1 (hR.P1 ha) 0 0 rfl rfl hin hd h0
theorem s_lald {a m : Nat} {f : Nat → Int64} {i : Int32} {r : List Value} (hd : decode (bT j) pc = .ok (.laload, 1)) (ha : h a = some (.inr (m, .inr (.inl f)))) (hin : vp_in i m) (hk : A z j n k sl h (pc + 1) ls (.long (f i.toNatClampNeg) :: r) Q) : A z j n k sl h pc ls (.int i :: .ref a :: r) Q := by
  intro p l e R s m' args below meth c b sa cs D Qc hC hret H locs la hR hS hl
  have h0 := hk p l e R s m' args below meth c b sa cs D Qc hC hret H locs la hR hS hl
  obtain ⟨-, hx, hb, -, -, hown, hts, -, -, hWO, -⟩ := hC
  exact va_lald (D := D) (cl := vwCl) (tys := aTy cs) (ws := [(b + a, .inl (cs.2.1, m, .inr (.inl f)))]) hx hb hWO.2.1 (hR.P1 ha) 0 1 rfl rfl hin hd h0
theorem aV_rf (b : Nat) (sa : Nat → Nat) (o : Option Nat) : aV b sa (va_rf o) = va_rf (o.map (fun a => b + a)) := by cases o <;> rfl
theorem s_aald {a m : Nat} {f : Nat → Option Nat} {i : Int32} {r : List Value} (hd : decode (bT j) pc = .ok (.aaload, 1)) (ha : h a = some (.inr (m, .inr (.inr f)))) (hin : vp_in i m) (hk : A z j n k sl h (pc + 1) ls (va_rf (f i.toNatClampNeg) :: r) Q) : A z j n k sl h pc ls (.int i :: .ref a :: r) Q := by
  intro p l e R s m' args below meth c b sa cs D Qc hC hret H locs la hR hS hl
  have h0 := hk p l e R s m' args below meth c b sa cs D Qc hC hret H locs la hR hS hl
  obtain ⟨-, hx, hb, -, -, hown, hts, -, -, hWO, -⟩ := hC
  rw [List.map_cons, aV_rf] at h0
  exact va_aldq (D := D) (cl := vwCl) (tys := aTy cs) (C := "GrownAsks$Sheet") (ws := [(b + a, .inl (cs.2.2, m, .inr (.inr (.inr (.inr (fun j => (f j).map (fun a => b + a)))))))]) hx hb hWO.2.1 (hR.P1 ha) 0 2 rfl rfl hin hd h0
theorem s_alen {a m : Nat} {x : (Nat → Int32) ⊕ ((Nat → Int64) ⊕ (Nat → Option Nat))} {r : List Value} (hd : decode (bT j) pc = .ok (.arraylength, 1)) (ha : h a = some (.inr (m, x))) (hk : A z j n k sl h (pc + 1) ls (.int (Int32.ofNat m) :: r) Q) : A z j n k sl h pc ls (.ref a :: r) Q := by
  intro p l e R s m' args below meth c b sa cs D Qc hC hret H locs la hR hS hl
  have h0 := hk p l e R s m' args below meth c b sa cs D Qc hC hret H locs la hR hS hl
  obtain ⟨-, hx, hb, -, -, hown, hts, -, -, hWO, -⟩ := hC
  obtain f | f | f := x
  · exact va_alen (D := D) (cl := vwCl) (tys := aTy cs) (ws := [(b + a, .inl (cs.1, m, .inl f))]) hx hb hWO.2.1 (hR.P1 ha) 0 0 rfl rfl rfl hd h0
  · exact va_alen (D := D) (cl := vwCl) (tys := aTy cs) (ws := [(b + a, .inl (cs.2.1, m, .inr (.inl f)))]) hx hb hWO.2.1 (hR.P1 ha) 0 1 rfl rfl rfl hd h0
  · exact va_alen (D := D) (cl := vwCl) (tys := aTy cs) (ws := [(b + a, .inl (cs.2.2, m, .inr (.inr (.inr (.inr (fun j => (f j).map (fun a => b + a)))))))]) hx hb hWO.2.1 (hR.P1 ha) 0 2 rfl rfl rfl hd h0
theorem s_iast {a m : Nat} {f : Nat → Int32} {i v : Int32} {r : List Value} (hd : decode (bT j) pc = .ok (.iastore, 1)) (ha : h a = some (.inr (m, .inl f))) (hin : vp_in i m) (hk : A z j n k sl (hset h a (.inr (m, .inl (upd f i.toNatClampNeg v)))) (pc + 1) ls r Q) : A z j n k sl h pc ls (.int v :: .int i :: .ref a :: r) Q := by
  intro p l e R s m' args below meth c b sa cs D Qc hC hret H locs la hR hS hl
  have h0 := hk p l e R s m' args below meth c b sa cs D Qc hC hret
  obtain ⟨-, hx, hb, -, -, hown, hts, -, -, hWO, -⟩ := hC
  refine W.iast hx hb (hR.2 a _ ha) ((hWO.2.1.2 0 _ rfl).1 m (fun j => .int (f j))) (fun q => by cases q) (by show ¬ (i < 0 ∨ (arrV _ _ _).slots.size ≤ _); rw [arrV_size]; exact hin) rfl rfl hd fun H1 e1 z1 oq => ?_
  refine h0 H1 _ la (hR.upd z1 oq ?_) (hS.put z1 oq (Nat.le_add_right b a)) hl
  show H1[b + a]? = some (vp_cell _ _)
  rw [e1]
  rw [vp_cell_i, vp_cell_i, arrV_store]
  congr 2
  funext q
  by_cases hq : q = i.toNatClampNeg
  · subst hq
    simp [updV, upd]
  · simp [updV, upd, hq]
theorem s_last {a m : Nat} {f : Nat → Int64} {i : Int32} {v : Int64} {r : List Value} (hd : decode (bT j) pc = .ok (.lastore, 1)) (ha : h a = some (.inr (m, .inr (.inl f)))) (hin : vp_in i m) (hk : A z j n k sl (hset h a (.inr (m, .inr (.inl (vp_updL f i.toNatClampNeg v))))) (pc + 1) ls r Q) : A z j n k sl h pc ls (.long v :: .int i :: .ref a :: r) Q := by
  intro p l e R s m' args below meth c b sa cs D Qc hC hret H locs la hR hS hl
  have h0 := hk p l e R s m' args below meth c b sa cs D Qc hC hret
  obtain ⟨-, hx, hb, -, -, hown, hts, -, -, hWO, -⟩ := hC
  refine W.last hx hb (hR.2 a _ ha) ((hWO.2.1.2 1 _ rfl).1 m (fun j => .long (f j))) (fun q => by cases q) (by show ¬ (i < 0 ∨ (arrV _ _ _).slots.size ≤ _); rw [arrV_size]; exact hin) rfl rfl hd fun H1 e1 z1 oq => ?_
  refine h0 H1 _ la (hR.upd z1 oq ?_) (hS.put z1 oq (Nat.le_add_right b a)) hl
  show H1[b + a]? = some (vp_cell _ _)
  rw [e1]
  rw [vp_cell_l, vp_cell_l, arrV_store]
  congr 2
  funext q
  by_cases hq : q = i.toNatClampNeg
  · subst hq
    simp [updV, vp_updL]
  · simp [updV, vp_updL, hq]
theorem s_aast {a m v ci : Nat} {vs : List Value} {f : Nat → Option Nat} {i : Int32} {r : List Value} (hd : decode (bT j) pc = .ok (.aastore, 1)) (ha : h a = some (.inr (m, .inr (.inr f)))) (hv : h v = some (.inl (ci, vs))) (hci : ci = 5) (hin : vp_in i m) (hk : A z j n k sl (hset h a (.inr (m, .inr (.inr (va_up f i.toNatClampNeg (some v)))))) (pc + 1) ls r Q) : A z j n k sl h pc ls (.ref v :: .int i :: .ref a :: r) Q := by
  intro p l e R s m' args below meth c b sa cs D Qc hC hret H locs la hR hS hl
  have h0 := hk p l e R s m' args below meth c b sa cs D Qc hC hret
  obtain ⟨-, hx, hb, -, -, hown, hts, -, -, hWO, -⟩ := hC
  subst hci
  have hlt : i.toNatClampNeg < m := Nat.not_le.mp fun q => hin (Or.inr q)
  have hi0 : ¬ i < 0 := fun q => hin (Or.inl q)
  obtain ⟨r', hr', cellV, g1, g2, g3, -⟩ := hR.2 v _ hv
  have hcls := (hWO.2.1.1 5 (RX5, TX5, 3) rfl).2
  obtain ⟨kA, comp, k1, k2, k3, -⟩ := (hWO.2.1.2 2 _ rfl).2
  have hcomp : comp = D.1 5 := Option.some.inj (k3.symm.trans hcls.1)
  subst hcomp
  obtain ⟨kC, hkC, -⟩ := hcls.2
  refine W.aast hx hb (hR.2 a _ ha) (fun q h => by cases h) (fun h => by cases h) k1 k2 rfl hkC ⟨hi0, by show _ < (arrV _ _ _).slots.size; rw [arrV_size]; exact hlt⟩ g1 (fun q h => by rw [g3] at h; cases h) (by rw [g2]; exact hkC) (by rw [g2]; exact va_assign hcls) rfl rfl hd fun H1 e1 z1 oq => ?_
  refine h0 H1 _ la (hR.upd z1 oq ?_) (hS.put z1 oq (Nat.le_add_right b a)) hl
  show H1[b + a]? = some (vp_cell _ _)
  rw [e1]
  rw [vp_cell_q, vp_cell_q, arrV_store]
  congr 2
  funext q
  by_cases hq : q = i.toNatClampNeg
  · subst hq
    simp [updV, va_up, va_rf]
  · simp [updV, va_up, hq]
end Steps
