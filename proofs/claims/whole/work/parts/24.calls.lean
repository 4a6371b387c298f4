section Calls1
variable {z : aZ} {j n k sl : Nat} {h : aH} {pc : Nat} {ls : List (Option Value)} {st : List Value} {Q : aQ}
theorem WO.moved {b : Nat} {sa : Nat → Nat} {cs : aCS} {D : va_G} {s U : State} {H : Heap} {locs : List Loc} (hW : s.WarmedH U.vm) (hH : U.heap = H) (hS : va_S (fun q => b ≤ q) s.heap H locs) (h : WO z b sa cs D s) : WO z b sa cs D U := by
  obtain ⟨h1, h2, h3, h4, h5, h6⟩ := h
  have hk : ∀ a : Nat, a < s.heap.size → ¬ b ≤ a → U.heap[a]? = s.heap[a]? := fun a g1 g2 => by rw [hH]; exact hS.2.1 a g1 g2
  refine ⟨by rw [hH]; exact Nat.le_trans h1 hS.1, va_K.moved hW.alike h2, fun w hw => ?_, fun i hi => ((h4 i hi).moved hW.alike).kept hk, fun i hi => ((h5 i hi).moved hW.alike).kept hk, va_AO.moved hW.alike h6⟩
  have h9 := h3 w hw
  simp only [nestW, List.mem_cons, List.not_mem_nil, or_false] at hw
  rcases hw with hw | hw | hw | hw | hw | hw | hw | hw | hw | hw | hw | hw | hw <;> subst hw <;> first | exact va_Nw.warmM hW h9 | exact va_Nw.warmF hW h9
theorem WO.calling {b : Nat} {sa : Nat → Nat} {cs : aCS} {D : va_G} {U : State} {g : JFrame} {mk : MethodId} {a : Array Value} (h : WO z b sa cs D U) : WO z b sa cs D (U.calling g mk a) := by
  obtain ⟨h1, h2, h3, h4, h5, h6⟩ := h
  refine ⟨h1, va_K.moved (u := U) (U := U.calling g mk a) (Vm.Alike.refl U.vm) h2, fun w hw => ?_, fun i hi => (h4 i hi).moved (u := U) (U := U.calling g mk a) (Vm.Alike.refl U.vm), fun i hi => (h5 i hi).moved (u := U) (U := U.calling g mk a) (Vm.Alike.refl U.vm), va_AO.moved (u := U) (U := U.calling g mk a) (Vm.Alike.refl U.vm) h6⟩
  have h9 := h3 w hw
  refine va_Nw.same ?_ (u := U) (U := U.calling g mk a) rfl h9
  simp only [nestW, List.mem_cons, List.not_mem_nil, or_false] at hw
  rcases hw with hw | hw | hw | hw | hw | hw | hw | hw | hw | hw | hw | hw | hw <;> subst hw <;> rfl
/-! static arrays -/
theorem s_gets {idx x y p : Nat} {ps : List Nat} {c' : Int32} {d' : Int64} (hd : decode (bT j) pc = .ok (.getstatic idx, 3)) (hs : sideB j pc (.getstatic idx) x y ps c' d' = true) (hk : A z j n k sl h (pc + 3) ls (.float (UInt32.ofNat x) :: st) Q) : A z j n k sl h pc ls st Q := by
  intro p l e R s m args below meth c b sa cs D Qc hC hret H locs la hR hS hl
  have h0 := hk p l e R s m args below meth c b sa cs D Qc hC hret H locs la hR hS hl
  obtain ⟨-, hx, hb, -, -, hown, hts, -, -, hWO, -⟩ := hC
  simp only [sideB, Bool.and_eq_true, decide_eq_true_eq] at hs
  have hxx : (UInt32.ofNat x).toNat = x := by simp; omega
  have h1 : W p l e R s m args below meth c H locs k sl Qc (F0 m (pc + 3) la (.ref (sa x) :: st.map (aV b sa))) := by
    have : aV b sa (.float (UInt32.ofNat x)) = .ref (sa x) := by simp only [aV, hxx]
    rw [List.map_cons, this] at h0
    exact h0
  by_cases hy : y = 0
  · rw [if_pos hy] at hs
    exact va_gets hx hb (hWO.2.2.2.1 x hs.1) hS hown (hts _ (wAt_mem hs.2)) (fun _ q => q) hd h1
  · rw [if_neg hy] at hs
    have hm := List.mem_of_getElem? (of_decide_eq_true hs.2)
    exact va_getsN hx hb (hWO.2.2.2.1 x hs.1) hS hown (va_Nw.use rfl (hWO.2.2.1 _ hm)) (fun _ q => q) hd h1
theorem s_ialdS {u : UInt32} {i : Int32} {r : List Value} (hd : decode (bT j) pc = .ok (.iaload, 1)) (hu : u.toNat < 4) (hin : vp_in i (sArr z u.toNat).1) (hk : A z j n k sl h (pc + 1) ls (.int ((sArr z u.toNat).2 i.toNatClampNeg) :: r) Q) : A z j n k sl h pc ls (.int i :: .float u :: r) Q := by
  intro p l e R s m args below meth c b sa cs D Qc hC hret H locs la hR hS hl
  have h0 := hk p l e R s m args below meth c b sa cs D Qc hC hret H locs la hR hS hl
  obtain ⟨-, hx, hb, -, -, hown, hts, -, -, hWO, -⟩ := hC
  obtain ⟨cell, g1, g2, g3, g4, g5, g6, g7⟩ := hWO.2.2.2.2.1 _ hu
  have hlt : i.toNatClampNeg < (sArr z u.toNat).1 := Nat.not_le.mp fun q => hin (Or.inr q)
  exact W.iald (v := .int ((sArr z u.toNat).2 i.toNatClampNeg)) hx hb (by rw [hS.2.1 _ (Array.getElem?_eq_some_iff.mp g1).1 g7]; exact g1) g2 g3 (fun q => q.elim (fun q => hin (Or.inl q)) (fun q => absurd hlt (by omega))) (g6 _ hlt) rfl rfl hd h0
theorem s_alenS {u : UInt32} {r : List Value} (hd : decode (bT j) pc = .ok (.arraylength, 1)) (hu : u.toNat < 4) (hk : A z j n k sl h (pc + 1) ls (.int (Int32.ofNat (sArr z u.toNat).1) :: r) Q) : A z j n k sl h pc ls (.float u :: r) Q := by
  intro p l e R s m args below meth c b sa cs D Qc hC hret H locs la hR hS hl
  have h0 := hk p l e R s m args below meth c b sa cs D Qc hC hret H locs la hR hS hl
  obtain ⟨-, hx, hb, -, -, hown, hts, -, -, hWO, -⟩ := hC
  obtain ⟨cell, g1, g2, g3, g4, g5, g6, g7⟩ := hWO.2.2.2.2.1 _ hu
  exact W.alen hx hb (by rw [hS.2.1 _ (Array.getElem?_eq_some_iff.mp g1).1 g7]; exact g1) g2 g5 rfl rfl hd h0
/-! what is made -/
theorem aV_def (b : Nat) (sa : Nat → Nat) (ty : FieldType) (h : ty ≠ .float) : aV b sa (defaultValue ty) = defaultValue ty := by cases ty <;> first | rfl | exact absurd rfl h
theorem tyF : ∀ x, x < 12 → ∀ q : vw_C, vwCl[x]? = some q → ∀ y, y < q.2.2 → tyT x y ≠ .float := by decide +kernel
theorem s_new {idx x y : Nat} {ps : List Nat} {c' : Int32} {d' : Int64} (hd : decode (bT j) pc = .ok (.new idx, 3)) (hs : sideB j pc (.new idx) x y ps c' d' = true) (h1 : k + 1 ≤ mcT j) (h2 : sl + y ≤ msT j) (hk : A z j (n + 1) (k + 1) (sl + y) (hset h n (.inl (x, (List.range y).map (fun q => defaultValue (tyT x q))))) (pc + 3) ls (.ref n :: st) Q) : A z j n k sl h pc ls st Q := by
  intro p l e R s m args below meth c b sa cs D Qc hC hret H locs la hR hS hl
  have h0 := hk p l e R s m args below meth c b sa cs D Qc hC hret
  obtain ⟨-, hx, hb, -, -, hown, hts, -, -, hWO, -, -, hRc, hRs⟩ := hC
  simp only [sideB] at hs
  cases hq : vwCl[x]? with
  | none => rw [hq] at hs; cases hs
  | some q =>
    rw [hq] at hs
    obtain ⟨C, T, N⟩ := q
    simp only [Bool.and_eq_true, decide_eq_true_eq] at hs
    obtain ⟨⟨⟨rfl, hw1⟩, hw2⟩, hw3⟩ := hs
    have hx12 : x < 12 := (List.getElem?_eq_some_iff.mp hq).1
    have hKn := hWO.2.1.1 x _ hq
    refine W.newcK hx hb hown (hts _ (wAt_mem hw1)) (hts _ (wAt_mem hw2)) (hts _ (wAt_mem hw3)) rfl hd (by rw [hRc]; exact h1) (by rw [hRs]; exact h2) hKn.2.1 rfl fun H1 kC hkC e1 z1 o1 => ?_
    rw [hR.1] at e1
    have hb9 := (u_born (tyT x) hts (clsW x _ hq) hKn hkC e1 (clsT x _ hq))
    have h3 := h0 H1 locs la (hR.push (by rw [z1]) o1 ⟨_, hq, hb9.to (fun i hi => ?_)⟩) (hS.grow (by rw [z1]) o1) hl
    · rw [List.map_cons] at h3
      rw [show H.size = b + n from hR.1]
      exact h3
    · dsimp only at hi ⊢
      simp only [vp_V, List.map_map, List.getD_eq_getElem?_getD, List.getElem?_map, List.getElem?_range hi, Option.map_some, Option.getD_some, Function.comp]
      rw [aV_def b sa _ (tyF x hx12 _ hq i hi)]
theorem s_newI {m : Int32} {ps : List Nat} {x y : Nat} {c' : Int32} {d' : Int64} {r : List Value} (hd : decode (bT j) pc = .ok (.newarray .int, 2)) (hs : sideB j pc (.newarray .int) x y ps c' d' = true) (hm : ¬ m < 0) (hm2 : m.toNatClampNeg ≤ 65536) (h1 : k + 1 ≤ mcT j) (h2 : sl + m.toNatClampNeg ≤ msT j) (hk : A z j (n + 1) (k + 1) (sl + m.toNatClampNeg) (hset h n (.inr (m.toNatClampNeg, .inl (fun _ => 0)))) (pc + 2) ls (.ref n :: r) Q) : A z j n k sl h pc ls (.int m :: r) Q := by
  intro p l e R s m' args below meth c b sa cs D Qc hC hret H locs la hR hS hl
  have h0 := hk p l e R s m' args below meth c b sa cs D Qc hC hret
  obtain ⟨-, hx, hb, -, -, hown, hts, -, -, hWO, -, -, hRc, hRs⟩ := hC
  simp only [sideB] at hs
  refine va_newaK (atype := .int) hx hb (hts _ (wAt_mem hs)) rfl hd rfl hm rfl (by show _ * 4 ≤ _; omega) (by rw [hRc]; exact h1) (by rw [hRs]; exact h2) rfl fun H1 cA e1 z1 o1 hAr hNm => ?_
  have hcA : cA = cs.1 := by
    have g := (hWO.2.1.2 0 _ rfl).2
    exact Option.some.inj (hNm.symm.trans g)
  subst hcA
  rw [hR.1] at e1
  have h3 := h0 H1 locs la (hR.push (by rw [z1]) o1 ?_) (hS.grow (by rw [z1]) o1) hl
  · rw [List.map_cons] at h3
    rw [show H.size = b + n from hR.1]
    exact h3
  · show H1[b + n]? = some (vp_cell _ _)
    rw [e1, vp_cell_i]; rfl
theorem s_newL {m : Int32} {ps : List Nat} {x y : Nat} {c' : Int32} {d' : Int64} {r : List Value} (hd : decode (bT j) pc = .ok (.newarray .long, 2)) (hs : sideB j pc (.newarray .long) x y ps c' d' = true) (hm : ¬ m < 0) (hm2 : m.toNatClampNeg ≤ 65536) (h1 : k + 1 ≤ mcT j) (h2 : sl + m.toNatClampNeg ≤ msT j) (hk : A z j (n + 1) (k + 1) (sl + m.toNatClampNeg) (hset h n (.inr (m.toNatClampNeg, .inr (.inl (fun _ => 0))))) (pc + 2) ls (.ref n :: r) Q) : A z j n k sl h pc ls (.int m :: r) Q := by
  intro p l e R s m' args below meth c b sa cs D Qc hC hret H locs la hR hS hl
  have h0 := hk p l e R s m' args below meth c b sa cs D Qc hC hret
  obtain ⟨-, hx, hb, -, -, hown, hts, -, -, hWO, -, -, hRc, hRs⟩ := hC
  simp only [sideB] at hs
  refine va_newaK (atype := .long) hx hb (hts _ (wAt_mem hs)) rfl hd rfl hm rfl (by show _ * 8 ≤ _; omega) (by rw [hRc]; exact h1) (by rw [hRs]; exact h2) rfl fun H1 cA e1 z1 o1 hAr hNm => ?_
  have hcA : cA = cs.2.1 := by
    have g := (hWO.2.1.2 1 _ rfl).2
    exact Option.some.inj (hNm.symm.trans g)
  subst hcA
  rw [hR.1] at e1
  have h3 := h0 H1 locs la (hR.push (by rw [z1]) o1 ?_) (hS.grow (by rw [z1]) o1) hl
  · rw [List.map_cons] at h3
    rw [show H.size = b + n from hR.1]
    exact h3
  · show H1[b + n]? = some (vp_cell _ _)
    rw [e1, vp_cell_l]; rfl
theorem s_newA {m : Int32} {idx : Nat} {ps : List Nat} {x y : Nat} {c' : Int32} {d' : Int64} {r : List Value} (hd : decode (bT j) pc = .ok (.anewarray idx, 3)) (hs : sideB j pc (.anewarray idx) x y ps c' d' = true) (hm : ¬ m < 0) (hm2 : m.toNatClampNeg ≤ 65536) (h1 : k + 1 ≤ mcT j) (h2 : sl + m.toNatClampNeg ≤ msT j) (hk : A z j (n + 1) (k + 1) (sl + m.toNatClampNeg) (hset h n (.inr (m.toNatClampNeg, .inr (.inr (fun _ => none))))) (pc + 3) ls (.ref n :: r) Q) : A z j n k sl h pc ls (.int m :: r) Q := by
  intro p l e R s m' args below meth c b sa cs D Qc hC hret H locs la hR hS hl
  have h0 := hk p l e R s m' args below meth c b sa cs D Qc hC hret
  obtain ⟨-, hx, hb, -, -, hown, hts, -, -, hWO, -, -, hRc, hRs⟩ := hC
  simp only [sideB] at hs
  refine W.anew hx hb hown (hts _ (wAt_mem hs)) (va_AO.use hWO.2.2.2.2.2) rfl hd rfl hm (by omega) (by rw [hRc]; exact h1) (by rw [hRs]; exact h2) fun cA kA comp f1 f2 f3 f4 => ?_
  have hcA : cA = cs.2.2 := by
    obtain ⟨_, _, -, -, -, g⟩ := (hWO.2.1.2 2 _ rfl).2
    exact Option.some.inj (f1.symm.trans g)
  subst hcA
  generalize hH1 : H.push ({ cls := cs.2.2, slots := Array.replicate m.toNatClampNeg .null, vm := .none } : Cell) = H1
  have z1 : H1.size = H.size + 1 := by rw [← hH1, Array.size_push]
  have e1 : H1[H.size]? = some (arrV cs.2.2 m.toNatClampNeg (fun _ => .null)) := by rw [← hH1, Array.getElem?_push_size, ← arrV_new]
  have o1 : ∀ q : Nat, q < H.size → H1[q]? = H[q]? := fun q hq => by rw [← hH1, Array.getElem?_push, if_neg (Nat.ne_of_lt hq)]
  rw [hR.1] at e1
  have h3 := h0 H1 locs la (hR.push (by rw [z1]) o1 ?_) (hS.grow (by rw [z1]) o1) hl
  · rw [List.map_cons] at h3
    rw [show H.size = b + n from hR.1]
    exact h3
  · show H1[b + n]? = some (vp_cell _ _)
    rw [e1, vp_cell_q]; rfl
/-! calls -/
theorem acall {p : Program} {l : Launch} {e : Env} {R : Room} {s : State} {m : MethodId} {args : Array Value} {below : List Frame} {meth : Method} {c : Code} {b : Nat} {sa : Nat → Nat} {cs : aCS} {D : va_G} {Qc : State → Prop} {H : Heap} {locs : List Loc} {mc ms : Nat} {la : Array Slot} {st0 rest : List Value} {Q' : aQ}
    (hr : va_Run p l e R s m args below meth c H locs k sl mc ms (F0 m pc la st0) rest (fun st oc t => (∃ (v : Option Value) (n' : Nat) (h' : aH), oc = .returned (v.map (aV b sa)) ∧ Q' v n' h' ∧ Rep b sa cs D n' h' t.heap) ∧ va_F (fun q => b ≤ q) st t) (fun q => b ≤ q))
    (hS : va_S (fun q => b ≤ q) s.heap H locs)
    (kk : ∀ (v : Option Value) (n' : Nat) (h' : aH) (H1 : Heap) (locs1 : List Loc), Q' v n' h' → Rep b sa cs D n' h' H1 → va_S (fun q => b ≤ q) s.heap H1 locs1 → W p l e R s m args below meth c H1 locs1 (k + mc) (sl + ms) Qc (F0 m (pc + 3) la ((v.map (aV b sa)).toList ++ rest))) : W p l e R s m args below meth c H locs k sl Qc (F0 m pc la st0) := by
  intro T hT X
  obtain ⟨v, st₀, t, T', L, h0, X', hL, e1, e2, ⟨⟨v', n', h', hv, hq, hrep⟩, hz, hk⟩, stt⟩ := hr T hT X
  have hv' : v = v'.map (aV b sa) := by cases hv; rfl
  subst hv'
  rw [h0] at hz hk
  obtain ⟨t2, a1, b1⟩ := kk v' n' h' T'.heap (locs ++ L) hq (by rw [e1]; exact hrep)
    ⟨Nat.le_trans hS.1 (by rw [e1]; exact hz), fun q h1 h2 => by rw [e1, hk q (Nat.lt_of_lt_of_le h1 hS.1) h2]; exact hS.2.1 q h1 h2, fun q hq => by
      rcases List.mem_append.mp hq with h | h
      · exact hS.2.2 q h
      · exact hL q h⟩ T' rfl X'
  exact ⟨t2, stt t2 a1, b1⟩
theorem popN_spec : ∀ {na : Nat} {acc st as r : List Value}, popN na acc st = some (as, r) → ∃ bs, as = bs.reverse ++ acc ∧ st = bs ++ r ∧ bs.length = na
  | 0, acc, st, as, r, hp => by
    simp only [popN, Option.some.injEq, Prod.mk.injEq] at hp
    exact ⟨[], by simp [hp.1], by simp [hp.2], rfl⟩
  | na + 1, acc, [], as, r, hp => by simp [popN] at hp
  | na + 1, acc, v :: st, as, r, hp => by
    rw [popN] at hp
    obtain ⟨bs, h1, h2, h3⟩ := popN_spec hp
    exact ⟨v :: bs, by simp [h1], by simp [h2], by simp [h3]⟩
theorem ct_sum (b : Nat) (sa : Nat → Nat) : ∀ r : List Value, ((r.map (aV b sa)).map fun v => v.category).sum = ct r
  | [] => rfl
  | v :: r => by rw [List.map_cons, List.map_cons, List.sum_cons, aV_cat, ct_sum b sa r, ct]
theorem goodG {x : Nat} (hm : okM x) (big : List Cond) (hbig : ∀ w ∈ tblG, w ∈ big) : GoodIn big (Cond.code (yT x) (bT x) (mlT x) (rtT x) :: tblG) := by
  have hg : ∀ w ∈ tblG, w ∈ big ∧ ((w.onTables && w.keeps) = true ∨ ∃ ty, w = .arrayClass ty) := fun w hw => ⟨hbig w hw, good_of_word (List.mem_filter.mp hw).2⟩
  intro w hw
  rcases List.mem_cons.mp hw with h | h
  · subst h; exact hg _ hm.2.1
  · exact hg _ h
theorem preBlind {b : Nat} {sa : Nat → Nat} {cs : aCS} {D : va_G} {as : List Value} : FrameBlind (fun v U => v = (as.map (aV b sa)).toArray ∧ WO z b sa cs D U ∧ Rep b sa cs D n h U.heap) := fun a U g mk q => ⟨q.1, q.2.1.calling, q.2.2⟩
theorem callB0_spec {x na mc ms : Nat} (hb : callB0 j x na mc ms = true) : mc = mcT x ∧ ms = msT x ∧ ((yT x).cls ≠ "java/lang/invoke/MethodHandle" ∧ (yT x).cls ≠ "java/lang/invoke/VarHandle") ∧ (parseMethodDescriptor (yT x).desc).map (fun d => d.parameters.length) = some na ∧ frT x + 1 ≤ frT j ∧ 8 + (mlT x + 11) + loT x ≤ loT j := by
  simp only [callB0, Bool.and_eq_true, decide_eq_true_eq] at hb
  exact ⟨hb.1.1.1.1.1, hb.1.1.1.1.2, hb.1.1.1.2, hb.1.1.2, hb.1.2, hb.2⟩
end Calls1
