def sNm (i : Nat) : String × String := if i = 0 then ("GrownAsks$Smalls", "A_OF") else if i = 1 then ("GrownAsks$Smalls", "B_OF") else ("GrownAsks", "SIGNS")
def tblG : List Cond := lw_tbl.filter goodWord
/-! checks of a method's code against the tables, by program -/
def wAt (p : Nat) (w : Cond) : Bool := decide (lw_tbl[p]? = some w) && goodWord w
def tyT (ci k : Nat) : FieldType := if ci = 0 then tyX0 k else if ci = 1 then tyX1 k else if ci = 2 then tyX2 k else if ci = 3 then tyX3 k else if ci = 4 then tyX4 k else if ci = 5 then tyX5 k else if ci = 6 then tyX6 k else if ci = 7 then tyX7 k else if ci = 8 then tyX8 k else if ci = 9 then tyX9 k else if ci = 10 then tyX10 k else tyX11 k
def tcOk (t : Nat) (ty : FieldType) : Bool := match t, ty with
  | 0, .int => true
  | 1, .boolean => true
  | 2, .object _ => true
  | 2, .array _ => true
  | _, _ => false
def fldB (j idx x y p : Nat) : Bool := match vwCl[x]? with
  | some q => decide (y < q.2.2) && wAt p (.fieldLink (yT j).cls idx (q.2.1 y).1 (q.2.1 y).2.1 (q.2.1 y).2.2.1)
  | none => false
def callB0 (j x na : Nat) (mc ms : Nat) : Bool := decide (mc = mcT x) && decide (ms = msT x) && decide ((yT x).cls ≠ "java/lang/invoke/MethodHandle" ∧ (yT x).cls ≠ "java/lang/invoke/VarHandle") && decide ((parseMethodDescriptor (yT x).desc).map (fun d => d.parameters.length) = some na) && decide (frT x + 1 ≤ frT j) && decide (8 + (mlT x + 11) + loT x ≤ loT j)
def sideB (j pc : Nat) (i : Instr) (x y : Nat) (ps : List Nat) (c : Int32) (d : Int64) : Bool := match i with
  | .getfield idx => fldB j idx x y (ps.getD 0 0)
  | .putfield idx => fldB j idx x y (ps.getD 0 0) && (match vwCl[x]? with
      | some q => tcOk (ps.getD 1 0) (tyT x y) && (if ps.getD 2 0 = 1 then (q.2.1 y).2.2.2 && decide ((yT j).name = "<init>") && decide ((q.2.1 y).1 = (yT j).cls) else decide ((q.2.1 y).2.2.2 = false))
      | none => false)
  | .getstatic idx => decide (x < 3) && (if y = 0 then wAt (ps.getD 0 0) (.fieldLink (yT j).cls idx (sNm x).1 (sNm x).2 "[I") else decide (nestW[ps.getD 0 0]? = some (.fieldLinkNest (yT j).cls idx (sNm x).1 (sNm x).2 "[I" "GrownAsks")))
  | .invokevirtual idx => decide (1 ≤ ps.getD 0 0) && callB0 j x (ps.getD 0 0 - 1) (ps.getD 2 0) (ps.getD 3 0) && decide ((vwCl[ps.getD 1 0]?).map (fun q => q.1) = some (yT x).cls) && wAt (ps.getD 4 0) (.methodLink (yT j).cls idx (yT x)) && wAt (ps.getD 5 0) (.instanceMethod (yT x)) && wAt (ps.getD 6 0) (.selects (yT x).cls (yT x) (yT x))
  | .invokestatic idx => if y = 3 then wAt (ps.getD 0 0) (.methodLink (yT j).cls idx Lib.Math.max.name) && wAt (ps.getD 1 0) (.static Lib.Math.max.name) && wAt (ps.getD 2 0) (.initialized "java/lang/Math") && wAt (ps.getD 3 0) (.code Lib.Math.max.name Lib.Math.max.code 2 (some .int)) && decide (1 ≤ frT j) && decide (21 ≤ loT j) else
      if y = 4 then wAt (ps.getD 0 0) (.methodLink (yT j).cls idx Lib.Math.min.name) && wAt (ps.getD 1 0) (.static Lib.Math.min.name) && wAt (ps.getD 2 0) (.initialized "java/lang/Math") && wAt (ps.getD 3 0) (.code Lib.Math.min.name Lib.Math.min.code 2 (some .int)) && decide (1 ≤ frT j) && decide (21 ≤ loT j) else
      callB0 j x (ps.getD 0 0) (ps.getD 2 0) (ps.getD 3 0) && wAt (ps.getD 5 0) (.static (yT x)) && (if y = 0 then wAt (ps.getD 4 0) (.methodLink (yT j).cls idx (yT x)) else decide (nestW[ps.getD 4 0]? = some (.methodLinkNest (yT j).cls idx (yT x) "GrownAsks")))
  | .invokespecial idx => if y = 2 then wAt (ps.getD 0 0) (.methodLink (yT j).cls idx objectInit) && wAt (ps.getD 1 0) (.instanceMethod objectInit) && wAt (ps.getD 2 0) (.code objectInit ⟨#[0xb1]⟩ 1 none) && decide (1 ≤ frT j) && decide (20 ≤ loT j) else
      decide (1 ≤ ps.getD 0 0) && callB0 j x (ps.getD 0 0 - 1) (ps.getD 2 0) (ps.getD 3 0) && wAt (ps.getD 5 0) (.instanceMethod (yT x)) && decide ((yT x).name = "<init>") && decide (rtT x = none) && (if y = 0 then wAt (ps.getD 4 0) (.methodLink (yT j).cls idx (yT x)) else decide (nestW[ps.getD 4 0]? = some (.methodLinkNest (yT j).cls idx (yT x) "GrownAsks")))
  | .new idx => (match vwCl[x]? with
      | some q => decide (y = q.2.2) && wAt (ps.getD 0 0) (.classLink (yT j).cls idx q.1) && wAt (ps.getD 1 0) (.instantiable q.1 q.2.2) && wAt (ps.getD 2 0) (.initialized q.1)
      | none => false)
  | .newarray t => (match t with
      | .int => wAt (ps.getD 0 0) (.arrayClass .int)
      | .long => wAt (ps.getD 0 0) (.arrayClass .long)
      | _ => false)
  | .anewarray idx => wAt (ps.getD 0 0) (.classLink (yT j).cls idx "GrownAsks$Sheet")
  | .ldc idx => wAt (ps.getD 0 0) (.constant (yT j).cls idx c)
  | .ldc_w idx => wAt (ps.getD 0 0) (.constant (yT j).cls idx c)
  | .ldc2_w idx => wAt (ps.getD 0 0) (.constantLong (yT j).cls idx d)
  | .iload_n a => decide ((a : Nat) = x)
  | .lload_n a => decide ((a : Nat) = x)
  | .aload_n a => decide ((a : Nat) = x)
  | .istore_n a => decide ((a : Nat) = x)
  | .lstore_n a => decide ((a : Nat) = x)
  | .astore_n a => decide ((a : Nat) = x)
  | .iconst n => decide (Int32.ofInt n = c)
  | .bipush n => decide ((Int8.ofInt n).toInt32 = c)
  | .sipush n => decide ((Int16.ofInt n).toInt32 = c)
  | .iinc _ n => decide (Int32.ofInt n = c)
  | .lconst n => decide (Int64.ofNat (n : Nat) = d)
  | .goto off => decide ((pc : Int) + off = (x : Int))
  | .ifnull off => decide ((pc : Int) + off = (x : Int))
  | .ifnonnull off => decide ((pc : Int) + off = (x : Int))
  | .ifCond _ off => decide ((pc : Int) + off = (x : Int))
  | .if_icmp _ off => decide ((pc : Int) + off = (x : Int))
  | .tableswitch d lo hi offs => decide ((pc : Int) + d = ((ps.getD 0 0 : Nat) : Int)) && decide (offs.toList.map (fun o => (pc : Int) + o) = (ps.drop 1).map (fun t : Nat => (t : Int))) && decide (hi + 1 = lo + offs.size) && decide (lo = c.toInt ∧ c.toInt + offs.size < 2147483648)
  | .lookupswitch d qs => decide ((pc : Int) + d = ((ps.getD 0 0 : Nat) : Int)) && decide (qs.toList.map (fun o => (pc : Int) + o.2) = (ps.drop 1).map (fun t : Nat => (t : Int))) && (qs.toList.zip (qs.toList.drop 1)).all (fun (a, next) => a.1 < next.1) && qs.toList.all (fun a => decide ((Int32.ofInt a.1).toInt = a.1))
  | .ireturn => if x = 1 then decide (rtT j = some .boolean) else decide (rtT j = some .int)
  | .lreturn => decide (rtT j = some .long)
  | .return_ => decide (rtT j = none)
  | .areturn => (match rtT j with
      | some (.object _) => true
      | _ => false)
  | _ => true
def lenI (i : Instr) (len : Nat) : Bool := match i with
  | .bipush _ => len == 2
  | .sipush _ => len == 3
  | .ldc _ => len == 2
  | .ldc_w _ => len == 3
  | .ldc2_w _ => len == 3
  | .iload _ => len == 2
  | .lload _ => len == 2
  | .aload _ => len == 2
  | .istore _ => len == 2
  | .lstore _ => len == 2
  | .astore _ => len == 2
  | .iinc _ _ => len == 3
  | .getfield _ => len == 3
  | .putfield _ => len == 3
  | .getstatic _ => len == 3
  | .invokevirtual _ => len == 3
  | .invokestatic _ => len == 3
  | .invokespecial _ => len == 3
  | .new _ => len == 3
  | .newarray _ => len == 2
  | .anewarray _ => len == 3
  | .goto _ => len == 3
  | .ifnull _ => len == 3
  | .ifnonnull _ => len == 3
  | .ifCond _ _ => len == 3
  | .if_icmp _ _ => len == 3
  | .tableswitch _ _ _ _ => true
  | .lookupswitch _ _ => true
  | _ => len == 1
def chkC (j : Nat) : Bool := (List.range (szT j)).all (fun pc => match cdT j pc with
  | none => true
  | some (i, len, x, y, ps, c, d) => decide (decode (bT j) pc = .ok (i, len)) && (lenI i len && sideB j pc i x y ps c d))
def chkM (j : Nat) : Bool := plainName (yT j).cls && wAt (cwT j) (.code (yT j) (bT j) (mlT j) (rtT j)) && wAt (inT j) (.initialized (yT j).cls)
def chk1 (j pc : Nat) : Bool := match cdT j pc with
  | none => true
  | some (i, len, x, y, ps, c, d) => decide (decode (bT j) pc = .ok (i, len)) && (lenI i len && sideB j pc i x y ps c d)
def chkR (j a n : Nat) : Bool := (List.range n).all (fun i => chk1 j (a + i))
/-- the code table of a method is its bytes', and its links are the tables' -/
def okC (j : Nat) : Prop := ∀ pc i len x y ps c d, cdT j pc = some (i, len, x, y, ps, c, d) → decode (bT j) pc = .ok (i, len) ∧ lenI i len = true ∧ sideB j pc i x y ps c d = true
theorem okC_of {j : Nat} (hc : chkC j = true) (hn : ∀ pc, ¬ pc < szT j → cdT j pc = none) : okC j := by
  intro pc i len x y ps c d h
  by_cases hp : pc < szT j
  · have h1 := List.all_eq_true.mp hc pc (List.mem_range.mpr hp)
    rw [h] at h1
    simp only [Bool.and_eq_true, decide_eq_true_eq] at h1
    exact h1
  · rw [hn pc hp] at h; cases h
theorem okC_of2 {j : Nat} (m q : Nat) (hm : 0 < m) (hc : ∀ i, i < q → chkR j (m * i) m = true) (hq : szT j ≤ m * q) (hn : ∀ pc, ¬ pc < szT j → cdT j pc = none) : okC j := by
  intro pc i len x y ps c d h
  by_cases hp : pc < szT j
  · have h0 : pc / m < q := Nat.div_lt_of_lt_mul (by omega)
    have h1 := List.all_eq_true.mp (hc _ h0) (pc % m) (List.mem_range.mpr (Nat.mod_lt _ hm))
    rw [Nat.div_add_mod] at h1
    simp only [chk1, h, Bool.and_eq_true, decide_eq_true_eq] at h1
    exact h1
  · rw [hn pc hp] at h; cases h
def okM (j : Nat) : Prop := plainName (yT j).cls = true ∧ Cond.code (yT j) (bT j) (mlT j) (rtT j) ∈ tblG ∧ Cond.initialized (yT j).cls ∈ tblG
theorem wAt_mem {p : Nat} {w : Cond} (h : wAt p w = true) : w ∈ tblG := by
  simp only [wAt, Bool.and_eq_true, decide_eq_true_eq] at h
  exact List.mem_filter.mpr ⟨List.mem_of_getElem? h.1, h.2⟩
theorem okM_of {j : Nat} (h : chkM j = true) : okM j := by
  simp only [chkM, Bool.and_eq_true] at h
  exact ⟨h.1.1, wAt_mem h.1.2, wAt_mem h.2⟩
