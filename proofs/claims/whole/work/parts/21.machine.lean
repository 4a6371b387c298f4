/-! The machine in short: an abstract heap (cells by their number from a base address on), abstract locals and stack; a judgement A over W; a function that walks. -/
abbrev aC : Type := (Nat × List Value) ⊕ (Nat × ((Nat → Int32) ⊕ ((Nat → Int64) ⊕ (Nat → Option Nat))))
abbrev aH : Type := Nat → Option aC
abbrev aQ : Type := Option Value → Nat → aH → Prop
abbrev aZ : Type := Nat × (Nat → Int32)
abbrev aCS : Type := ClassId × ClassId × ClassId
def hset (h : aH) (a : Nat) (c : aC) : aH := fun k => if k = a then some c else h k
def aV (b : Nat) (sa : Nat → Nat) (v : Value) : Value := match v with
  | .ref a => .ref (b + a)
  | .float k => .ref (sa k.toNat)
  | v => v
def aE (b : Nat) (sa : Nat → Nat) (cs : aCS) (c : aC) : va_E := match c with
  | .inl (ci, fs) => .inr (ci, fs.map (aV b sa))
  | .inr (n, .inl f) => .inl (cs.1, n, .inl f)
  | .inr (n, .inr (.inl f)) => .inl (cs.2.1, n, .inr (.inl f))
  | .inr (n, .inr (.inr f)) => .inl (cs.2.2, n, .inr (.inr (.inr (.inr (fun j => (f j).map (fun a => b + a))))))
def sA0 (j : Nat) : Int32 := if j = 0 then -100 else if j = 1 then 0 else if j = 2 then 1 else if j = 3 then -100 else if j = 4 then 0 else 1
def sA1 (j : Nat) : Int32 := if j < 3 then -100 else 0
def sA2 (j : Nat) : Int32 := if j = 0 then 38 else if j = 1 then 124 else if j = 2 then 33 else if j = 3 then 63 else if j = 4 then 60 else if j = 5 then 61 else 62
def sArr (z : aZ) (i : Nat) : aZ := if i = 0 then (6, sA0) else if i = 1 then (6, sA1) else if i = 2 then (7, sA2) else z
def aTy (cs : aCS) : List (ClassId × FieldType) := [(cs.1, .int), (cs.2.1, .long), (cs.2.2, .object "GrownAsks$Sheet")]
/-- what holds of the tables and of the static arrays, whatever is called -/
def WO (z : aZ) (b : Nat) (sa : Nat → Nat) (cs : aCS) (D : va_G) (U : State) : Prop :=
  b ≤ U.heap.size ∧ va_K D vwCl (aTy cs) U ∧ (∀ w ∈ nestW, va_Nw w U) ∧ (∀ i, i < 3 → va_Z (sNm i).1 (sNm i).2 "[I" (.ref (sa i)) (fun q => b ≤ q) U U.heap) ∧ (∀ i, i < 4 → va_T .int (sa i) (sArr z i).1 (fun j => .int ((sArr z i).2 j)) (fun q => b ≤ q) U U.heap) ∧ va_AO "GrownAsks$Sheet" U
/-- the heap from b on is the abstract one -/
def Rep (b : Nat) (sa : Nat → Nat) (cs : aCS) (D : va_G) (n : Nat) (h : aH) (H : Heap) : Prop := H.size = b + n ∧ ∀ k c, h k = some c → va_at D vwCl (b + k, aE b sa cs c) H
def lsA (f : Value → Value) : Nat → List (Option Value) → List (Nat × Value)
  | _, [] => []
  | i, none :: r => lsA f (i + 1) r
  | i, some v :: r => (i, f v) :: lsA f (i + 1) r
/-! the judgements -/
def Cx (z : aZ) (j : Nat) (p : Program) (R : Room) (s : State) (m : MethodId) (args : Array Value) (meth : Method) (c : Code) (b : Nat) (sa : Nat → Nat) (cs : aCS) (D : va_G) : Prop :=
  okC j ∧ p.tables.exec = Jvm.exec ∧ c.code = bT j ∧ meth.sig.returnType = rtT j ∧ c.maxLocals = mlT j ∧ s.vm.findClass (yT j).cls = some m.cls ∧ (∀ w ∈ tblG, w.before args s = true) ∧ meth.locks = false ∧ ((yT j).name = "<init>" → meth.name = "<init>") ∧ WO z b sa cs D s ∧ frT j ≤ R.frames ∧ loT j ≤ R.locals ∧ R.cells = mcT j ∧ R.slots = msT j
def RetI (j : Nat) (v : Option Value) (pc : Nat) : Prop := match v with
  | none => decode (bT j) pc = .ok (.return_, 1) ∧ rtT j = none
  | some (.int x) => decode (bT j) pc = .ok (.ireturn, 1) ∧ (rtT j = some .int ∨ (rtT j = some .boolean ∧ (x = 0 ∨ x = 1)))
  | some (.long _) => decode (bT j) pc = .ok (.lreturn, 1) ∧ rtT j = some .long
  | some v => decode (bT j) pc = .ok (.areturn, 1) ∧ (∃ nm, rtT j = some (.object nm)) ∧ (v = .null ∨ ∃ a, v = .ref a)
def A (z : aZ) (j n k sl : Nat) (h : aH) (pc : Nat) (ls : List (Option Value)) (st : List Value) (Q : aQ) : Prop :=
  ∀ (p : Program) (l : Launch) (e : Env) (R : Room) (s : State) (m : MethodId) (args : Array Value) (below : List Frame) (meth : Method) (c : Code) (b : Nat) (sa : Nat → Nat) (cs : aCS) (D : va_G) (Qc : State → Prop),
    Cx z j p R s m args meth c b sa cs D →
    (∀ (pc' : Nat) (la : Array Slot) (v : Option Value) (n' : Nat) (h' : aH) (H : Heap) (locs : List Loc) (k' sl' : Nat), Q v n' h' → k' ≤ mcT j → sl' ≤ msT j → Rep b sa cs D n' h' H → va_S (fun q => b ≤ q) s.heap H locs → RetI j v pc' →
      W p l e R s m args below meth c H locs k' sl' Qc (F0 m pc' la (v.toList.map (aV b sa)))) →
    ∀ (H : Heap) (locs : List Loc) (la : Array Slot), Rep b sa cs D n h H → va_S (fun q => b ≤ q) s.heap H locs → lv_has la (mlT j) (lsA (aV b sa) 0 ls) →
      W p l e R s m args below meth c H locs k sl Qc (F0 m pc la (st.map (aV b sa)))
def aRm (j : Nat) : Room := { frames := frT j, cells := mcT j, slots := msT j, locals := loT j }
/-- a call of method j: from every state that holds the abstract heap it returns, with Q -/
def Ok (j : Nat) (as : List Value) (n : Nat) (h : aH) (Q : aQ) : Prop :=
  okM j ∧ ∀ (z : aZ) (l : Launch) (b : Nat) (sa : Nat → Nat) (cs : aCS) (D : va_G),
    Met l (yT j) (Cond.code (yT j) (bT j) (mlT j) (rtT j) :: tblG) (aRm j)
      (fun v U => v = (as.map (aV b sa)).toArray ∧ WO z b sa cs D U ∧ Rep b sa cs D n h U.heap)
      (fun _ st oc t => (∃ (v : Option Value) (n' : Nat) (h' : aH), oc = .returned (v.map (aV b sa)) ∧ Q v n' h' ∧ Rep b sa cs D n' h' t.heap) ∧ va_F (fun q => b ≤ q) st t) (mcT j) (msT j) (fun q => b ≤ q)
/-! the walk -/
def ct : List Value → Nat
  | [] => 0
  | v :: r => v.category + ct r
def popN : Nat → List Value → List Value → Option (List Value × List Value)
  | 0, acc, st => some (acc, st)
  | _ + 1, _, [] => none
  | n + 1, acc, v :: st => popN n (v :: acc) st
def okS (ls : List (Option Value)) (i : Nat) : Bool := match i with
  | 0 => true
  | i' + 1 => match ls[i']? with
    | some (some v) => v.category == 1
    | _ => true
def inS : List Nat → Nat → Bool
  | [], _ => false
  | a :: r, p => if a = p then true else inS r p
abbrev aK : Type := Nat → Nat → Nat → aH → Nat → List (Option Value) → List Value → Prop
def ldI (ls : List (Option Value)) (i : Nat) (κ : Int32 → Prop) : Prop := match ls[i]? with
  | some (some (.int x)) => κ x
  | _ => False
def ldL (ls : List (Option Value)) (i : Nat) (κ : Int64 → Prop) : Prop := match ls[i]? with
  | some (some (.long x)) => κ x
  | _ => False
def ldA (ls : List (Option Value)) (i : Nat) (κ : Value → Prop) : Prop := match ls[i]? with
  | some (some (.ref a)) => κ (.ref a)
  | some (some (.float a)) => κ (.float a)
  | some (some .null) => κ .null
  | _ => False
def st1 (ls : List (Option Value)) (i : Nat) (v : Value) (κ : List (Option Value) → Prop) : Prop := if i < ls.length ∧ okS ls i = true then κ (ls.set i (some v)) else False
def st2 (ls : List (Option Value)) (i : Nat) (v : Value) (κ : List (Option Value) → Prop) : Prop := if i + 1 < ls.length ∧ okS ls i = true then κ ((ls.set i (some v)).set (i + 1) none) else False
def cI (cd : ClassFile.Cond) (x y : Int32) (t f : Prop) : Prop := match cd with
  | .eq => (x = y → t) ∧ (¬ x = y → f)
  | .ne => (¬ x = y → t) ∧ (x = y → f)
  | .lt => (x < y → t) ∧ (¬ x < y → f)
  | .ge => (y ≤ x → t) ∧ (¬ y ≤ x → f)
  | .gt => (y < x → t) ∧ (¬ y < x → f)
  | .le => (x ≤ y → t) ∧ (¬ x ≤ y → f)
def swL (x : Int32) (κ : Nat → Prop) (dflt : Nat) : List (Int × Int) → List Nat → Prop
  | a :: qs, t :: ts => (x = Int32.ofInt a.1 → κ t) ∧ (¬ x = Int32.ofInt a.1 → swL x κ dflt qs ts)
  | [], [] => κ dflt
  | _, _ => False
def swT (x : Int32) (κ : Nat → Prop) (dflt : Nat) : Int32 → List Nat → Prop
  | a, t :: ts => (x = a → κ t) ∧ (¬ x = a → swT x κ dflt (a + 1) ts)
  | _, [] => κ dflt
def callF (F : Nat → List Value → Option Value) (z : aZ) (Q : aQ) (j : Nat) (x na mc ms : Nat) (κ : aK) (n k sl : Nat) (h : aH) (pc : Nat) (ls : List (Option Value)) (st : List Value) : Prop := match popN na [] st with
  | some (as, r) => ct r ≤ 8 ∧ k + mc ≤ mcT j ∧ sl + ms ≤ msT j ∧ (match F x as with
      | some v => κ n (k + mc) (sl + ms) h (pc + 3) ls (v :: r)
      | none => Ok x as n h (fun v n' h' => A z j n' (k + mc) (sl + ms) h' (pc + 3) ls (v.toList ++ r) Q))
  | none => False
def callP (z : aZ) (Q : aQ) (j : Nat) (x na mc ms : Nat) (n k sl : Nat) (h : aH) (pc : Nat) (ls : List (Option Value)) (st : List Value) (ok : Value → Prop) : Prop := match popN na [] st with
  | some (as, r) => (match as with
      | a :: _ => ok a
      | [] => ok .null) ∧ ct r ≤ 8 ∧ k + mc ≤ mcT j ∧ sl + ms ≤ msT j ∧ Ok x as n h (fun v n' h' => A z j n' (k + mc) (sl + ms) h' (pc + 3) ls (v.toList ++ r) Q)
  | none => False
def stp (F : Nat → List Value → Option Value) (z : aZ) (j : Nat) (Q : aQ) (κ : aK) (n k sl : Nat) (h : aH) (pc : Nat) (ls : List (Option Value)) (st : List Value) (i : Instr) (x y : Nat) (ps : List Nat) (c : Int32) (d : Int64) : Prop := match i with
  | .iconst _ => κ n k sl h (pc + 1) ls (.int c :: st)
  | .bipush _ => κ n k sl h (pc + 2) ls (.int c :: st)
  | .sipush _ => κ n k sl h (pc + 3) ls (.int c :: st)
  | .lconst _ => κ n k sl h (pc + 1) ls (.long d :: st)
  | .ldc _ => κ n k sl h (pc + 2) ls (.int c :: st)
  | .ldc_w _ => κ n k sl h (pc + 3) ls (.int c :: st)
  | .ldc2_w _ => κ n k sl h (pc + 3) ls (.long d :: st)
  | .aconst_null => κ n k sl h (pc + 1) ls (.null :: st)
  | .iload_n _ => ldI ls x (fun v => κ n k sl h (pc + 1) ls (.int v :: st))
  | .iload a => ldI ls a (fun v => κ n k sl h (pc + 2) ls (.int v :: st))
  | .lload_n _ => ldL ls x (fun v => κ n k sl h (pc + 1) ls (.long v :: st))
  | .lload a => ldL ls a (fun v => κ n k sl h (pc + 2) ls (.long v :: st))
  | .aload_n _ => ldA ls x (fun v => κ n k sl h (pc + 1) ls (v :: st))
  | .aload a => ldA ls a (fun v => κ n k sl h (pc + 2) ls (v :: st))
  | .istore_n _ => (match st with
      | .int v :: r => st1 ls x (.int v) (fun ls => κ n k sl h (pc + 1) ls r)
      | _ => False)
  | .istore a => (match st with
      | .int v :: r => st1 ls a (.int v) (fun ls => κ n k sl h (pc + 2) ls r)
      | _ => False)
  | .lstore_n _ => (match st with
      | .long v :: r => st2 ls x (.long v) (fun ls => κ n k sl h (pc + 1) ls r)
      | _ => False)
  | .lstore a => (match st with
      | .long v :: r => st2 ls a (.long v) (fun ls => κ n k sl h (pc + 2) ls r)
      | _ => False)
  | .astore_n _ => (match st with
      | .ref v :: r => st1 ls x (.ref v) (fun ls => κ n k sl h (pc + 1) ls r)
      | .null :: r => st1 ls x .null (fun ls => κ n k sl h (pc + 1) ls r)
      | _ => False)
  | .astore a => (match st with
      | .ref v :: r => st1 ls a (.ref v) (fun ls => κ n k sl h (pc + 2) ls r)
      | .null :: r => st1 ls a .null (fun ls => κ n k sl h (pc + 2) ls r)
      | _ => False)
  | .iinc a _ => ldI ls a (fun v => st1 ls a (.int (v + c)) (fun ls => κ n k sl h (pc + 3) ls st))
  | .pop => (match st with
      | v :: r => if v.category = 1 then κ n k sl h (pc + 1) ls r else False
      | _ => False)
  | .dup => (match st with
      | v :: r => if v.category = 1 then κ n k sl h (pc + 1) ls (v :: v :: r) else False
      | _ => False)
  | .dup2 => (match st with
      | v :: r => if v.category = 2 then κ n k sl h (pc + 1) ls (v :: v :: r) else (match r with
        | w :: r => if w.category = 1 then κ n k sl h (pc + 1) ls (v :: w :: v :: w :: r) else False
        | _ => False)
      | _ => False)
  | .iadd => (match st with
      | .int b :: .int a :: r => κ n k sl h (pc + 1) ls (.int (a + b) :: r)
      | _ => False)
  | .isub => (match st with
      | .int b :: .int a :: r => κ n k sl h (pc + 1) ls (.int (a - b) :: r)
      | _ => False)
  | .imul => (match st with
      | .int b :: .int a :: r => κ n k sl h (pc + 1) ls (.int (a * b) :: r)
      | _ => False)
  | .iand => (match st with
      | .int b :: .int a :: r => κ n k sl h (pc + 1) ls (.int (a &&& b) :: r)
      | _ => False)
  | .ior => (match st with
      | .int b :: .int a :: r => κ n k sl h (pc + 1) ls (.int (a ||| b) :: r)
      | _ => False)
  | .ixor => (match st with
      | .int b :: .int a :: r => κ n k sl h (pc + 1) ls (.int (a ^^^ b) :: r)
      | _ => False)
  | .idiv => (match st with
      | .int b :: .int a :: r => (¬ b = 0) ∧ κ n k sl h (pc + 1) ls (.int (a / b) :: r)
      | _ => False)
  | .irem => (match st with
      | .int b :: .int a :: r => (¬ b = 0) ∧ κ n k sl h (pc + 1) ls (.int (a - a / b * b) :: r)
      | _ => False)
  | .ishl => (match st with
      | .int b :: .int a :: r => κ n k sl h (pc + 1) ls (.int (a <<< (b &&& 31)) :: r)
      | _ => False)
  | .ishr => (match st with
      | .int b :: .int a :: r => κ n k sl h (pc + 1) ls (.int (a >>> (b &&& 31)) :: r)
      | _ => False)
  | .iushr => (match st with
      | .int b :: .int a :: r => κ n k sl h (pc + 1) ls (.int ((a.toUInt32 >>> (b.toUInt32 &&& Int32.toUInt32 31)).toInt32) :: r)
      | _ => False)
  | .ladd => (match st with
      | .long b :: .long a :: r => κ n k sl h (pc + 1) ls (.long (a + b) :: r)
      | _ => False)
  | .lmul => (match st with
      | .long b :: .long a :: r => κ n k sl h (pc + 1) ls (.long (a * b) :: r)
      | _ => False)
  | .land => (match st with
      | .long b :: .long a :: r => κ n k sl h (pc + 1) ls (.long (a &&& b) :: r)
      | _ => False)
  | .lor => (match st with
      | .long b :: .long a :: r => κ n k sl h (pc + 1) ls (.long (a ||| b) :: r)
      | _ => False)
  | .lshl => (match st with
      | .int b :: .long a :: r => κ n k sl h (pc + 1) ls (.long (a <<< (b.toInt64 &&& 63)) :: r)
      | _ => False)
  | .lcmp => (match st with
      | .long b :: .long a :: r => κ n k sl h (pc + 1) ls (.int (lg_cmp a b) :: r)
      | _ => False)
  | .i2l => (match st with
      | .int a :: r => κ n k sl h (pc + 1) ls (.long a.toInt64 :: r)
      | _ => False)
  | .l2i => (match st with
      | .long a :: r => κ n k sl h (pc + 1) ls (.int a.toInt32 :: r)
      | _ => False)
  | .i2b => (match st with
      | .int a :: r => κ n k sl h (pc + 1) ls (.int a.toInt8.toInt32 :: r)
      | _ => False)
  | .i2s => (match st with
      | .int a :: r => κ n k sl h (pc + 1) ls (.int a.toInt16.toInt32 :: r)
      | _ => False)
  | .goto _ => κ n k sl h x ls st
  | .ifCond cd _ => (match st with
      | .int a :: r => cI cd a 0 (κ n k sl h x ls r) (κ n k sl h (pc + 3) ls r)
      | _ => False)
  | .if_icmp cd _ => (match st with
      | .int b :: .int a :: r => cI cd a b (κ n k sl h x ls r) (κ n k sl h (pc + 3) ls r)
      | _ => False)
  | .ifnull _ => (match st with
      | .ref _ :: r => κ n k sl h (pc + 3) ls r
      | .null :: r => κ n k sl h x ls r
      | _ => False)
  | .ifnonnull _ => (match st with
      | .ref _ :: r => κ n k sl h x ls r
      | .null :: r => κ n k sl h (pc + 3) ls r
      | _ => False)
  | .tableswitch _ _ _ _ => (match st with
      | .int a :: r => swT a (fun t => A z j n k sl h t ls r Q) (ps.getD 0 0) c (ps.drop 1)
      | _ => False)
  | .lookupswitch _ qs => (match st with
      | .int a :: r => swL a (fun t => A z j n k sl h t ls r Q) (ps.getD 0 0) qs.toList (ps.drop 1)
      | _ => False)
  | .getfield _ => (match st with
      | .ref a :: r => (match h a with
        | some (.inl (ci, fs)) => if ci = x then (match fs[y]? with
          | some v => κ n k sl h (pc + 3) ls (v :: r)
          | none => False) else False
        | _ => False)
      | _ => False)
  | .putfield _ => (match st with
      | v :: .ref a :: r => (match h a with
        | some (.inl (ci, fs)) => if ci = x ∧ y < fs.length then (match ps.getD 1 0, v with
          | 0, .int u => κ n k sl (hset h a (.inl (ci, fs.set y (.int u)))) (pc + 3) ls r
          | 1, .int u => (u = 0 ∨ u = 1) ∧ κ n k sl (hset h a (.inl (ci, fs.set y (.int u)))) (pc + 3) ls r
          | 2, .ref u => κ n k sl (hset h a (.inl (ci, fs.set y (.ref u)))) (pc + 3) ls r
          | _, _ => False) else False
        | _ => False)
      | _ => False)
  | .getstatic _ => κ n k sl h (pc + 3) ls (.float (UInt32.ofNat x) :: st)
  | .iaload => (match st with
      | .int i :: .ref a :: r => (match h a with
        | some (.inr (m, .inl f)) => vp_in i m ∧ κ n k sl h (pc + 1) ls (.int (f i.toNatClampNeg) :: r)
        | _ => False)
      | .int i :: .float u :: r => u.toNat < 4 ∧ vp_in i (sArr z u.toNat).1 ∧ κ n k sl h (pc + 1) ls (.int ((sArr z u.toNat).2 i.toNatClampNeg) :: r)
      | _ => False)
  | .laload => (match st with
      | .int i :: .ref a :: r => (match h a with
        | some (.inr (m, .inr (.inl f))) => vp_in i m ∧ κ n k sl h (pc + 1) ls (.long (f i.toNatClampNeg) :: r)
        | _ => False)
      | _ => False)
  | .aaload => (match st with
      | .int i :: .ref a :: r => (match h a with
        | some (.inr (m, .inr (.inr f))) => vp_in i m ∧ κ n k sl h (pc + 1) ls (va_rf (f i.toNatClampNeg) :: r)
        | _ => False)
      | _ => False)
  | .iastore => (match st with
      | .int v :: .int i :: .ref a :: r => (match h a with
        | some (.inr (m, .inl f)) => vp_in i m ∧ κ n k sl (hset h a (.inr (m, .inl (upd f i.toNatClampNeg v)))) (pc + 1) ls r
        | _ => False)
      | _ => False)
  | .lastore => (match st with
      | .long v :: .int i :: .ref a :: r => (match h a with
        | some (.inr (m, .inr (.inl f))) => vp_in i m ∧ κ n k sl (hset h a (.inr (m, .inr (.inl (vp_updL f i.toNatClampNeg v))))) (pc + 1) ls r
        | _ => False)
      | _ => False)
  | .aastore => (match st with
      | .ref v :: .int i :: .ref a :: r => (match h a, h v with
        | some (.inr (m, .inr (.inr f))), some (.inl (ci, _)) => ci = 5 ∧ vp_in i m ∧ κ n k sl (hset h a (.inr (m, .inr (.inr (va_up f i.toNatClampNeg (some v)))))) (pc + 1) ls r
        | _, _ => False)
      | _ => False)
  | .arraylength => (match st with
      | .ref a :: r => (match h a with
        | some (.inr (m, _)) => κ n k sl h (pc + 1) ls (.int (Int32.ofNat m) :: r)
        | _ => False)
      | .float u :: r => u.toNat < 4 ∧ κ n k sl h (pc + 1) ls (.int (Int32.ofNat (sArr z u.toNat).1) :: r)
      | _ => False)
  | .new _ => k + 1 ≤ mcT j ∧ sl + y ≤ msT j ∧ κ (n + 1) (k + 1) (sl + y) (hset h n (.inl (x, (List.range y).map (fun q => defaultValue (tyT x q))))) (pc + 3) ls (.ref n :: st)
  | .newarray t => (match st with
      | .int m :: r => (¬ m < 0) ∧ m.toNatClampNeg ≤ 65536 ∧ k + 1 ≤ mcT j ∧ sl + m.toNatClampNeg ≤ msT j ∧ (match t with
        | .int => κ (n + 1) (k + 1) (sl + m.toNatClampNeg) (hset h n (.inr (m.toNatClampNeg, .inl (fun _ => 0)))) (pc + 2) ls (.ref n :: r)
        | .long => κ (n + 1) (k + 1) (sl + m.toNatClampNeg) (hset h n (.inr (m.toNatClampNeg, .inr (.inl (fun _ => 0))))) (pc + 2) ls (.ref n :: r)
        | _ => False)
      | _ => False)
  | .anewarray _ => (match st with
      | .int m :: r => (¬ m < 0) ∧ m.toNatClampNeg ≤ 65536 ∧ k + 1 ≤ mcT j ∧ sl + m.toNatClampNeg ≤ msT j ∧ κ (n + 1) (k + 1) (sl + m.toNatClampNeg) (hset h n (.inr (m.toNatClampNeg, .inr (.inr (fun _ => none))))) (pc + 3) ls (.ref n :: r)
      | _ => False)
  | .invokevirtual _ => callP z Q j x (ps.getD 0 0) (ps.getD 2 0) (ps.getD 3 0) n k sl h pc ls st (fun v => match v with
      | .ref a => (match h a with
        | some (.inl (ci, _)) => ci = ps.getD 1 0
        | _ => False)
      | _ => False)
  | .invokestatic _ => if y = 3 then (match st with
      | .int b :: .int a :: r => ct r ≤ 8 ∧ k ≤ mcT j ∧ sl ≤ msT j ∧ κ n k sl h (pc + 3) ls (.int (if a < b then b else a) :: r)
      | _ => False) else if y = 4 then (match st with
      | .int b :: .int a :: r => ct r ≤ 8 ∧ k ≤ mcT j ∧ sl ≤ msT j ∧ κ n k sl h (pc + 3) ls (.int (if b < a then b else a) :: r)
      | _ => False) else callF F z Q j x (ps.getD 0 0) (ps.getD 2 0) (ps.getD 3 0) κ n k sl h pc ls st
  | .invokespecial _ => if y = 2 then (match st with
      | .ref _ :: r => ct r ≤ 8 ∧ κ n k sl h (pc + 3) ls r
      | _ => False) else callP z Q j x (ps.getD 0 0) (ps.getD 2 0) (ps.getD 3 0) n k sl h pc ls st (fun v => match v with
      | .ref _ => True
      | _ => False)
  | .ireturn => (match st with
      | [.int v] => (if x = 1 then v = 0 ∨ v = 1 else True) ∧ k ≤ mcT j ∧ sl ≤ msT j ∧ Q (some (.int v)) n h
      | _ => False)
  | .lreturn => (match st with
      | [.long v] => k ≤ mcT j ∧ sl ≤ msT j ∧ Q (some (.long v)) n h
      | _ => False)
  | .areturn => (match st with
      | [.ref v] => k ≤ mcT j ∧ sl ≤ msT j ∧ Q (some (.ref v)) n h
      | [.null] => k ≤ mcT j ∧ sl ≤ msT j ∧ Q (some .null) n h
      | _ => False)
  | .return_ => (match st with
      | [] => k ≤ mcT j ∧ sl ≤ msT j ∧ Q none n h
      | _ => False)
  | _ => False
def go (F : Nat → List Value → Option Value) (z : aZ) (j : Nat) (Q : aQ) (C : Nat → Option aI) (S : List Nat) : Nat → aK
  | 0, n, k, sl, h, pc, ls, st => A z j n k sl h pc ls st Q
  | f + 1, n, k, sl, h, pc, ls, st => match C pc with
    | some (i, _, x, y, ps, c, d) => stp F z j Q (fun n k sl h pc ls st => if inS S pc = true then A z j n k sl h pc ls st Q else go F z j Q C S f n k sl h pc ls st) n k sl h pc ls st i x y ps c d
    | none => False
