section Go
variable {z : aZ} {j n k sl : Nat} {h : aH} {pc : Nat} {ls : List (Option Value)} {st : List Value} {Q : aQ}
theorem ldI_spec {i : Nat} {κ : Int32 → Prop} (hh : ldI ls i κ) : ∃ x, ls[i]? = some (some (.int x)) ∧ κ x := by
  unfold ldI at hh
  split at hh
  · rename_i x he; exact ⟨x, he, hh⟩
  · exact hh.elim
theorem ldL_spec {i : Nat} {κ : Int64 → Prop} (hh : ldL ls i κ) : ∃ x, ls[i]? = some (some (.long x)) ∧ κ x := by
  unfold ldL at hh
  split at hh
  · rename_i x he; exact ⟨x, he, hh⟩
  · exact hh.elim
theorem ldA_spec {i : Nat} {κ : Value → Prop} (hh : ldA ls i κ) : ∃ v, ls[i]? = some (some v) ∧ ((∃ a, v = .ref a) ∨ (∃ a, v = .float a) ∨ v = .null) ∧ κ v := by
  unfold ldA at hh
  split at hh
  · rename_i a he; exact ⟨_, he, Or.inl ⟨a, rfl⟩, hh⟩
  · rename_i a he; exact ⟨_, he, Or.inr (Or.inl ⟨a, rfl⟩), hh⟩
  · rename_i he; exact ⟨_, he, Or.inr (Or.inr rfl), hh⟩
  · exact hh.elim
theorem st1_spec {i : Nat} {v : Value} {κ : List (Option Value) → Prop} (hh : st1 ls i v κ) : (i < ls.length ∧ okS ls i = true) ∧ κ (ls.set i (some v)) := by
  unfold st1 at hh
  split at hh
  · rename_i he; exact ⟨he, hh⟩
  · exact hh.elim
theorem st2_spec {i : Nat} {v : Value} {κ : List (Option Value) → Prop} (hh : st2 ls i v κ) : (i + 1 < ls.length ∧ okS ls i = true) ∧ κ ((ls.set i (some v)).set (i + 1) none) := by
  unfold st2 at hh
  split at hh
  · rename_i he; exact ⟨he, hh⟩
  · exact hh.elim
theorem s_ldA_n {i : Fin 4} {v : Value} (hd : decode (bT j) pc = .ok (.aload_n i, 1)) (hv : ls[(i : Nat)]? = some (some v)) (hc : (∃ a, v = .ref a) ∨ (∃ a, v = .float a) ∨ v = .null) (hk : A z j n k sl h (pc + 1) ls (v :: st) Q) : A z j n k sl h pc ls st Q := by
  refine A_pure (fun p l e R s m args below meth c b sa Qc H locs la hx hb ho ht hl w => ?_) hk
  rcases hc with ⟨a, rfl⟩ | ⟨a, rfl⟩ | rfl
  · exact lv_aload_n hx hb hd rfl (lsA_get hl hv) w
  · exact lv_aload_n hx hb hd rfl (lsA_get hl hv) w
  · exact lv_aload_nN hx hb hd rfl (lsA_get hl hv) w
theorem s_ldA {i : Nat} {v : Value} (hd : decode (bT j) pc = .ok (.aload i, 2)) (hv : ls[i]? = some (some v)) (hc : (∃ a, v = .ref a) ∨ (∃ a, v = .float a) ∨ v = .null) (hk : A z j n k sl h (pc + 2) ls (v :: st) Q) : A z j n k sl h pc ls st Q := by
  refine A_pure (fun p l e R s m args below meth c b sa Qc H locs la hx hb ho ht hl w => ?_) hk
  rcases hc with ⟨a, rfl⟩ | ⟨a, rfl⟩ | rfl
  · exact lv_aload hx hb hd (lsA_get hl hv) w
  · exact lv_aload hx hb hd (lsA_get hl hv) w
  · exact lv_aloadN hx hb hd (lsA_get hl hv) w
theorem len_of {len m : Nat} (h : (len == m) = true) : len = m := by simpa using h
theorem Ok_mono {x : Nat} {as : List Value} {Q1 Q2 : aQ} (hq : ∀ v n' h', Q1 v n' h' → Q2 v n' h') (hk : Ok x as n h Q1) : Ok x as n h Q2 := by
  refine ⟨hk.1, fun z l b sa cs D => ?_⟩
  intro p e g1 g2 g3 s m args below f1 f2 f3 f4
  obtain ⟨k0, o, t1, t2, t3, ⟨⟨v, n', h', e1, e2, e3⟩, e4⟩, e5⟩ := hk.2 z l b sa cs D p e g1 g2 g3 s m args below f1 f2 f3 f4
  exact ⟨k0, o, t1, t2, t3, ⟨⟨v, n', h', e1, hq _ _ _ e2, e3⟩, e4⟩, e5⟩
def okF (F : Nat → List Value → Option Value) : Prop := ∀ x as v, F x as = some v → ∀ (n : Nat) (h : aH) (Q : aQ), Q (some v) n h → Ok x as n h Q
theorem okF0 : okF (fun _ _ => none) := fun x as v h => by cases h
set_option maxHeartbeats 4000000 in
theorem stp_ok {F : Nat → List Value → Option Value} (hF : okF F) {κ : aK} (hκ : ∀ n k sl h pc ls' st, ls'.length = ls.length → κ n k sl h pc ls' st → A z j n k sl h pc ls' st Q) (hml : ls.length ≤ mlT j) {i : Instr} {len x y : Nat} {ps : List Nat} {c : Int32} {d : Int64}
    (hd : decode (bT j) pc = .ok (i, len)) (hl : lenI i len = true) (hs : sideB j pc i x y ps c d = true) (hp : stp F z j Q κ n k sl h pc ls st i x y ps c d) : A z j n k sl h pc ls st Q := by
  cases i with
  | iconst v => cases len_of hl; simp only [sideB, decide_eq_true_eq] at hs; exact A_pure (fun p l e R s m args below meth c b sa Qc H locs la hx hb ho ht hl w => lv_iconst hx hb hd hs w) (hκ _ _ _ _ _ _ _ rfl hp)
  | bipush v => cases len_of hl; simp only [sideB, decide_eq_true_eq] at hs; exact A_pure (fun p l e R s m args below meth c b sa Qc H locs la hx hb ho ht hl w => lv_bipush hx hb hd hs w) (hκ _ _ _ _ _ _ _ rfl hp)
  | sipush v => cases len_of hl; simp only [sideB, decide_eq_true_eq] at hs; exact A_pure (fun p l e R s m args below meth c b sa Qc H locs la hx hb ho ht hl w => lv_sipush hx hb hd hs w) (hκ _ _ _ _ _ _ _ rfl hp)
  | lconst v => cases len_of hl; simp only [sideB, decide_eq_true_eq] at hs; exact A_pure (fun p l e R s m args below meth c b sa Qc H locs la hx hb ho ht hl w => lv_lconst hx hb hd hs w) (hκ _ _ _ _ _ _ _ rfl hp)
  | ldc v => cases len_of hl; simp only [sideB] at hs; exact A_pure (fun p l e R s m args below meth c b sa Qc H locs la hx hb ho ht hl w => lv_ldc hx hb ho (ht _ (wAt_mem hs)) hd w) (hκ _ _ _ _ _ _ _ rfl hp)
  | ldc_w v => cases len_of hl; simp only [sideB] at hs; exact A_pure (fun p l e R s m args below meth c b sa Qc H locs la hx hb ho ht hl w => lv_ldcw hx hb ho (ht _ (wAt_mem hs)) hd w) (hκ _ _ _ _ _ _ _ rfl hp)
  | ldc2_w v => cases len_of hl; simp only [sideB] at hs; exact A_pure (fun p l e R s m args below meth c b sa Qc H locs la hx hb ho ht hl w => lv_ldc2 hx hb ho (ht _ (wAt_mem hs)) hd w) (hκ _ _ _ _ _ _ _ rfl hp)
  | aconst_null => cases len_of hl; exact A_pure (fun p l e R s m args below meth c b sa Qc H locs la hx hb ho ht hl w => lv_null hx hb hd w) (hκ _ _ _ _ _ _ _ rfl hp)
  | iload_n v => cases len_of hl; simp only [sideB, decide_eq_true_eq] at hs; subst hs; obtain ⟨u, h1, h2⟩ := ldI_spec hp; exact A_pure (fun p l e R s m args below meth c b sa Qc H locs la hx hb ho ht hl w => lv_iload_n hx hb hd rfl (lsA_get hl h1) w) (hκ _ _ _ _ _ _ _ rfl h2)
  | iload v => cases len_of hl; obtain ⟨u, h1, h2⟩ := ldI_spec hp; exact A_pure (fun p l e R s m args below meth c b sa Qc H locs la hx hb ho ht hl w => lv_iload hx hb hd (lsA_get hl h1) w) (hκ _ _ _ _ _ _ _ rfl h2)
  | lload_n v => cases len_of hl; simp only [sideB, decide_eq_true_eq] at hs; subst hs; obtain ⟨u, h1, h2⟩ := ldL_spec hp; exact A_pure (fun p l e R s m args below meth c b sa Qc H locs la hx hb ho ht hl w => lv_lload_n hx hb hd rfl (lsA_get hl h1) w) (hκ _ _ _ _ _ _ _ rfl h2)
  | lload v => cases len_of hl; obtain ⟨u, h1, h2⟩ := ldL_spec hp; exact A_pure (fun p l e R s m args below meth c b sa Qc H locs la hx hb ho ht hl w => lv_lload hx hb hd (lsA_get hl h1) w) (hκ _ _ _ _ _ _ _ rfl h2)
  | aload_n v => cases len_of hl; simp only [sideB, decide_eq_true_eq] at hs; subst hs; simp only [stp] at hp; obtain ⟨u, h1, h2, h3⟩ := ldA_spec hp; exact s_ldA_n hd h1 h2 (hκ _ _ _ _ _ _ _ rfl h3)
  | aload v => cases len_of hl; simp only [stp] at hp; obtain ⟨u, h1, h2, h3⟩ := ldA_spec hp; exact s_ldA hd h1 h2 (hκ _ _ _ _ _ _ _ rfl h3)
  | istore_n v =>
    cases len_of hl
    simp only [sideB, decide_eq_true_eq] at hs
    subst hs
    simp only [stp] at hp
    split at hp
    · rename_i u r
      obtain ⟨h1, h2⟩ := st1_spec hp
      exact A_st1 (v := .int u) (pc' := pc + 1) (st' := r) h1 hml (fun p l e R s m args below meth c b sa Qc H locs la hx hb hi hl w => lv_istore_n hx hb hd rfl hl hi rfl w) (hκ _ _ _ _ _ _ _ (by simp) h2)
    · exact hp.elim
  | istore v =>
    cases len_of hl
    simp only [stp] at hp
    split at hp
    · rename_i u r
      obtain ⟨h1, h2⟩ := st1_spec hp
      exact A_st1 (v := .int u) (pc' := pc + 2) (st' := r) h1 hml (fun p l e R s m args below meth c b sa Qc H locs la hx hb hi hl w => lv_istore hx hb hd hl hi rfl w) (hκ _ _ _ _ _ _ _ (by simp) h2)
    · exact hp.elim
  | lstore_n v =>
    cases len_of hl
    simp only [sideB, decide_eq_true_eq] at hs
    subst hs
    simp only [stp] at hp
    split at hp
    · rename_i u r
      obtain ⟨h1, h2⟩ := st2_spec hp
      exact A_st2 (v := .long u) (pc' := pc + 1) (st' := r) h1 hml (fun p l e R s m args below meth c b sa Qc H locs la hx hb hi hl w => lv_lstore_n hx hb hd rfl hl hi rfl w) (hκ _ _ _ _ _ _ _ (by simp) h2)
    · exact hp.elim
  | lstore v =>
    cases len_of hl
    simp only [stp] at hp
    split at hp
    · rename_i u r
      obtain ⟨h1, h2⟩ := st2_spec hp
      exact A_st2 (v := .long u) (pc' := pc + 2) (st' := r) h1 hml (fun p l e R s m args below meth c b sa Qc H locs la hx hb hi hl w => lv_lstore hx hb hd hl hi rfl w) (hκ _ _ _ _ _ _ _ (by simp) h2)
    · exact hp.elim
  | astore_n v =>
    cases len_of hl
    simp only [sideB, decide_eq_true_eq] at hs
    subst hs
    simp only [stp] at hp
    split at hp
    · rename_i u r
      obtain ⟨h1, h2⟩ := st1_spec hp
      exact A_st1 (v := .ref u) (pc' := pc + 1) (st' := r) h1 hml (fun p l e R s m args below meth c b sa Qc H locs la hx hb hi hl w => lv_astore_n hx hb hd rfl hl hi rfl w) (hκ _ _ _ _ _ _ _ (by simp) h2)
    · rename_i r
      obtain ⟨h1, h2⟩ := st1_spec hp
      exact A_st1 (v := .null) (pc' := pc + 1) (st' := r) h1 hml (fun p l e R s m args below meth c b sa Qc H locs la hx hb hi hl w => lv_astore_nN hx hb hd rfl hl hi rfl w) (hκ _ _ _ _ _ _ _ (by simp) h2)
    · exact hp.elim
  | astore v =>
    cases len_of hl
    simp only [stp] at hp
    split at hp
    · rename_i u r
      obtain ⟨h1, h2⟩ := st1_spec hp
      exact A_st1 (v := .ref u) (pc' := pc + 2) (st' := r) h1 hml (fun p l e R s m args below meth c b sa Qc H locs la hx hb hi hl w => lv_astore hx hb hd hl hi rfl w) (hκ _ _ _ _ _ _ _ (by simp) h2)
    · rename_i r
      obtain ⟨h1, h2⟩ := st1_spec hp
      exact A_st1 (v := .null) (pc' := pc + 2) (st' := r) h1 hml (fun p l e R s m args below meth c b sa Qc H locs la hx hb hi hl w => lv_astoreN hx hb hd hl hi rfl w) (hκ _ _ _ _ _ _ _ (by simp) h2)
    · exact hp.elim
  | iinc v w0 => cases len_of hl; simp only [sideB, decide_eq_true_eq] at hs; simp only [stp] at hp; obtain ⟨u, h0, hp⟩ := ldI_spec hp; obtain ⟨h1, h2⟩ := st1_spec hp; refine A_st1 h1 hml (fun p l e R s m args below meth cc b sa Qc H locs la hx hb hi hl w => ?_) (hκ _ _ _ _ _ _ _ (by simp) h2); obtain ⟨kk, hkk⟩ := List.getElem?_of_mem (mem_lsA.mpr ⟨v, _, h0, rfl⟩ : (0 + v, aV b sa (.int u)) ∈ lsA (aV b sa) 0 ls); rw [Nat.zero_add] at hkk; exact lv_iinc hx hb hd hl (k := kk) hkk (by rw [hs]) hi rfl w
  | pop => cases len_of hl; simp only [stp] at hp; split at hp <;> first | (split at hp <;> first | (rename_i hcat; exact A_pure (fun p l e R s m args below meth c b sa Qc H locs la hx hb ho ht hl w => lv_pop hx hb hd (by rw [aV_cat]; exact hcat) w) (hκ _ _ _ _ _ _ _ rfl hp)) | exact hp.elim) | exact hp.elim
  | dup => cases len_of hl; simp only [stp] at hp; split at hp <;> first | (split at hp <;> first | (rename_i hcat; exact A_pure (fun p l e R s m args below meth c b sa Qc H locs la hx hb ho ht hl w => lv_dup hx hb hd (by rw [aV_cat]; exact hcat) w) (hκ _ _ _ _ _ _ _ rfl hp)) | exact hp.elim) | exact hp.elim
  | dup2 =>
    cases len_of hl
    simp only [stp] at hp
    split at hp
    · split at hp
      · rename_i hcat
        exact A_pure (fun p l e R s m args below meth c b sa Qc H locs la hx hb ho ht hl w => lv_dup2_2 hx hb hd (by rw [aV_cat]; exact hcat) w) (hκ _ _ _ _ _ _ _ rfl hp)
      · rename_i v r hcat
        split at hp
        · split at hp
          · rename_i hcat2
            exact A_pure (fun p l e R s m args below meth c b sa Qc H locs la hx hb ho ht hl w => lv_dup2_11 hx hb hd (by rw [aV_cat]; exact (lv_cat v).resolve_right hcat) (by rw [aV_cat]; exact hcat2) w) (hκ _ _ _ _ _ _ _ rfl hp)
          · exact hp.elim
        · exact hp.elim
    · exact hp.elim
  | iadd => cases len_of hl; simp only [stp] at hp; split at hp <;> first | exact A_pure (fun p l e R s m args below meth c b sa Qc H locs la hx hb ho ht hl w => lv_iadd hx hb hd w) (hκ _ _ _ _ _ _ _ rfl hp) | exact hp.elim
  | isub => cases len_of hl; simp only [stp] at hp; split at hp <;> first | exact A_pure (fun p l e R s m args below meth c b sa Qc H locs la hx hb ho ht hl w => lv_isub hx hb hd w) (hκ _ _ _ _ _ _ _ rfl hp) | exact hp.elim
  | imul => cases len_of hl; simp only [stp] at hp; split at hp <;> first | exact A_pure (fun p l e R s m args below meth c b sa Qc H locs la hx hb ho ht hl w => lv_imul hx hb hd w) (hκ _ _ _ _ _ _ _ rfl hp) | exact hp.elim
  | iand => cases len_of hl; simp only [stp] at hp; split at hp <;> first | exact A_pure (fun p l e R s m args below meth c b sa Qc H locs la hx hb ho ht hl w => lv_iand hx hb hd w) (hκ _ _ _ _ _ _ _ rfl hp) | exact hp.elim
  | ior => cases len_of hl; simp only [stp] at hp; split at hp <;> first | exact A_pure (fun p l e R s m args below meth c b sa Qc H locs la hx hb ho ht hl w => lv_ior hx hb hd w) (hκ _ _ _ _ _ _ _ rfl hp) | exact hp.elim
  | ixor => cases len_of hl; simp only [stp] at hp; split at hp <;> first | exact A_pure (fun p l e R s m args below meth c b sa Qc H locs la hx hb ho ht hl w => lv_ixor hx hb hd w) (hκ _ _ _ _ _ _ _ rfl hp) | exact hp.elim
  | idiv => cases len_of hl; simp only [stp] at hp; split at hp <;> first | exact A_pure (fun p l e R s m args below meth c b sa Qc H locs la hx hb ho ht hl w => lv_idiv hx hb hd hp.1 w) (hκ _ _ _ _ _ _ _ rfl hp.2) | exact hp.elim
  | irem => cases len_of hl; simp only [stp] at hp; split at hp <;> first | exact A_pure (fun p l e R s m args below meth c b sa Qc H locs la hx hb ho ht hl w => lv_irem hx hb hd hp.1 w) (hκ _ _ _ _ _ _ _ rfl hp.2) | exact hp.elim
  | ishl => cases len_of hl; simp only [stp] at hp; split at hp <;> first | exact A_pure (fun p l e R s m args below meth c b sa Qc H locs la hx hb ho ht hl w => lv_ishl hx hb hd w) (hκ _ _ _ _ _ _ _ rfl hp) | exact hp.elim
  | ishr => cases len_of hl; simp only [stp] at hp; split at hp <;> first | exact A_pure (fun p l e R s m args below meth c b sa Qc H locs la hx hb ho ht hl w => lv_ishr hx hb hd w) (hκ _ _ _ _ _ _ _ rfl hp) | exact hp.elim
  | iushr => cases len_of hl; simp only [stp] at hp; split at hp <;> first | exact A_pure (fun p l e R s m args below meth c b sa Qc H locs la hx hb ho ht hl w => lv_iushr hx hb hd rfl w) (hκ _ _ _ _ _ _ _ rfl hp) | exact hp.elim
  | ladd => cases len_of hl; simp only [stp] at hp; split at hp <;> first | exact A_pure (fun p l e R s m args below meth c b sa Qc H locs la hx hb ho ht hl w => lv_ladd hx hb hd w) (hκ _ _ _ _ _ _ _ rfl hp) | exact hp.elim
  | lmul => cases len_of hl; simp only [stp] at hp; split at hp <;> first | exact A_pure (fun p l e R s m args below meth c b sa Qc H locs la hx hb ho ht hl w => lv_lmul hx hb hd w) (hκ _ _ _ _ _ _ _ rfl hp) | exact hp.elim
  | land => cases len_of hl; simp only [stp] at hp; split at hp <;> first | exact A_pure (fun p l e R s m args below meth c b sa Qc H locs la hx hb ho ht hl w => lv_land hx hb hd w) (hκ _ _ _ _ _ _ _ rfl hp) | exact hp.elim
  | lor => cases len_of hl; simp only [stp] at hp; split at hp <;> first | exact A_pure (fun p l e R s m args below meth c b sa Qc H locs la hx hb ho ht hl w => lv_lor hx hb hd w) (hκ _ _ _ _ _ _ _ rfl hp) | exact hp.elim
  | lshl => cases len_of hl; simp only [stp] at hp; split at hp <;> first | exact A_pure (fun p l e R s m args below meth c b sa Qc H locs la hx hb ho ht hl w => lv_lshl hx hb hd rfl w) (hκ _ _ _ _ _ _ _ rfl hp) | exact hp.elim
  | lcmp => cases len_of hl; simp only [stp] at hp; split at hp <;> first | exact A_pure (fun p l e R s m args below meth c b sa Qc H locs la hx hb ho ht hl w => W.lcmp hx hb hd w) (hκ _ _ _ _ _ _ _ rfl hp) | exact hp.elim
  | i2l => cases len_of hl; simp only [stp] at hp; split at hp <;> first | exact A_pure (fun p l e R s m args below meth c b sa Qc H locs la hx hb ho ht hl w => lv_i2l hx hb hd rfl w) (hκ _ _ _ _ _ _ _ rfl hp) | exact hp.elim
  | l2i => cases len_of hl; simp only [stp] at hp; split at hp <;> first | exact A_pure (fun p l e R s m args below meth c b sa Qc H locs la hx hb ho ht hl w => lv_l2i hx hb hd rfl w) (hκ _ _ _ _ _ _ _ rfl hp) | exact hp.elim
  | i2b => cases len_of hl; simp only [stp] at hp; split at hp <;> first | exact A_pure (fun p l e R s m args below meth c b sa Qc H locs la hx hb ho ht hl w => lv_i2b hx hb hd rfl w) (hκ _ _ _ _ _ _ _ rfl hp) | exact hp.elim
  | i2s => cases len_of hl; simp only [stp] at hp; split at hp <;> first | exact A_pure (fun p l e R s m args below meth c b sa Qc H locs la hx hb ho ht hl w => lv_i2s hx hb hd rfl w) (hκ _ _ _ _ _ _ _ rfl hp) | exact hp.elim
  | goto v => cases len_of hl; simp only [sideB, decide_eq_true_eq] at hs; exact A_pure (fun p l e R s m args below meth c b sa Qc H locs la hx hb ho ht hl w => lv_goto hx hb hd hs w) (hκ _ _ _ _ _ _ _ rfl hp)
  | ifCond cd v => cases len_of hl; simp only [sideB, decide_eq_true_eq] at hs; simp only [stp] at hp; split at hp <;> first | exact s_if hd hs (hκ _ _ _ _ _ _ _ rfl) (hκ _ _ _ _ _ _ _ rfl) hp | exact hp.elim
  | if_icmp cd v => cases len_of hl; simp only [sideB, decide_eq_true_eq] at hs; simp only [stp] at hp; split at hp <;> first | exact s_cI hd hs (hκ _ _ _ _ _ _ _ rfl) (hκ _ _ _ _ _ _ _ rfl) hp | exact hp.elim
  | ifnull v => cases len_of hl; simp only [sideB, decide_eq_true_eq] at hs; simp only [stp] at hp; split at hp <;> first | exact A_pure (fun p l e R s m args below meth c b sa Qc H locs la hx hb ho ht hl w => lv_ifnull hx hb hd w) (hκ _ _ _ _ _ _ _ rfl hp) | exact A_pure (fun p l e R s m args below meth c b sa Qc H locs la hx hb ho ht hl w => lv_ifnullN hx hb hd hs w) (hκ _ _ _ _ _ _ _ rfl hp) | exact hp.elim
  | ifnonnull v => cases len_of hl; simp only [sideB, decide_eq_true_eq] at hs; simp only [stp] at hp; split at hp <;> first | exact A_pure (fun p l e R s m args below meth c b sa Qc H locs la hx hb ho ht hl w => lv_ifnonnull hx hb hd hs w) (hκ _ _ _ _ _ _ _ rfl hp) | exact A_pure (fun p l e R s m args below meth c b sa Qc H locs la hx hb ho ht hl w => lv_ifnonnullN hx hb hd w) (hκ _ _ _ _ _ _ _ rfl hp) | exact hp.elim
  | tableswitch a1 a2 a3 a4 => simp only [stp] at hp; split at hp <;> first | exact s_swT hd hs (fun t q => q) hp | exact hp.elim
  | lookupswitch a1 a2 => simp only [stp] at hp; split at hp <;> first | exact s_swL hd hs (fun t q => q) hp | exact hp.elim
  | getfield v =>
    cases len_of hl
    simp only [stp] at hp
    split at hp
    · split at hp
      · split at hp
        · split at hp
          · rename_i ha hci _ _ hv
            subst hci
            exact s_getf hd hs ha hv (hκ _ _ _ _ _ _ _ rfl hp)
          · exact hp.elim
        · exact hp.elim
      · exact hp.elim
    · exact hp.elim
  | getstatic v => cases len_of hl; exact s_gets (p := 0) hd hs (hκ _ _ _ _ _ _ _ rfl hp)
  | iaload =>
    cases len_of hl
    simp only [stp] at hp
    split at hp
    · split at hp
      · rename_i ha
        exact s_iald hd ha hp.1 (hκ _ _ _ _ _ _ _ rfl hp.2)
      · exact hp.elim
    · exact s_ialdS hd hp.1 hp.2.1 (hκ _ _ _ _ _ _ _ rfl hp.2.2)
    · exact hp.elim
  | laload =>
    cases len_of hl
    simp only [stp] at hp
    split at hp
    · split at hp
      · rename_i ha
        exact s_lald hd ha hp.1 (hκ _ _ _ _ _ _ _ rfl hp.2)
      · exact hp.elim
    · exact hp.elim
  | aaload =>
    cases len_of hl
    simp only [stp] at hp
    split at hp
    · split at hp
      · rename_i ha
        exact s_aald hd ha hp.1 (hκ _ _ _ _ _ _ _ rfl hp.2)
      · exact hp.elim
    · exact hp.elim
  | iastore =>
    cases len_of hl
    simp only [stp] at hp
    split at hp
    · split at hp
      · rename_i ha
        exact s_iast hd ha hp.1 (hκ _ _ _ _ _ _ _ rfl hp.2)
      · exact hp.elim
    · exact hp.elim
  | lastore =>
    cases len_of hl
    simp only [stp] at hp
    split at hp
    · split at hp
      · rename_i ha
        exact s_last hd ha hp.1 (hκ _ _ _ _ _ _ _ rfl hp.2)
      · exact hp.elim
    · exact hp.elim
  | aastore =>
    cases len_of hl
    simp only [stp] at hp
    split at hp
    · split at hp
      · rename_i ha hv
        exact s_aast hd ha hv hp.1 hp.2.1 (hκ _ _ _ _ _ _ _ rfl hp.2.2)
      · exact hp.elim
    · exact hp.elim
  | arraylength =>
    cases len_of hl
    simp only [stp] at hp
    split at hp
    · split at hp
      · rename_i ha
        exact s_alen hd ha (hκ _ _ _ _ _ _ _ rfl hp)
      · exact hp.elim
    · exact s_alenS hd hp.1 (hκ _ _ _ _ _ _ _ rfl hp.2)
    · exact hp.elim
  | new v => cases len_of hl; exact s_new hd hs hp.1 hp.2.1 (hκ _ _ _ _ _ _ _ rfl hp.2.2)
  | newarray v =>
    cases len_of hl
    simp only [stp] at hp
    split at hp
    · obtain ⟨h1, h2, h3, h4, hp⟩ := hp
      cases v with
      | int => exact s_newI hd hs h1 h2 h3 h4 (hκ _ _ _ _ _ _ _ rfl hp)
      | long => exact s_newL hd hs h1 h2 h3 h4 (hκ _ _ _ _ _ _ _ rfl hp)
      | _ => exact hp.elim
    · exact hp.elim
  | anewarray v =>
    cases len_of hl
    simp only [stp] at hp
    split at hp
    · obtain ⟨h1, h2, h3, h4, hp⟩ := hp
      exact s_newA hd hs h1 h2 h3 h4 (hκ _ _ _ _ _ _ _ rfl hp)
    · exact hp.elim
  | ireturn =>
    cases len_of hl
    simp only [sideB] at hs
    simp only [stp] at hp
    split at hp
    · rename_i v
      refine s_ret (v := some (.int v)) ⟨hd, ?_⟩ hp.2.1 hp.2.2.1 hp.2.2.2
      by_cases hx : x = 1
      · rw [if_pos hx] at hs
        have h1 := hp.1
        rw [if_pos hx] at h1
        exact Or.inr ⟨of_decide_eq_true hs, h1⟩
      · rw [if_neg hx] at hs
        exact Or.inl (of_decide_eq_true hs)
    · exact hp.elim
  | lreturn => cases len_of hl; simp only [sideB, decide_eq_true_eq] at hs; simp only [stp] at hp; split at hp <;> first | (rename_i v; exact s_ret (v := some (.long v)) ⟨hd, hs⟩ hp.1 hp.2.1 hp.2.2) | exact hp.elim
  | return_ => cases len_of hl; simp only [sideB, decide_eq_true_eq] at hs; simp only [stp] at hp; split at hp <;> first | exact s_ret (v := none) ⟨hd, hs⟩ hp.1 hp.2.1 hp.2.2 | exact hp.elim
  | areturn =>
    cases len_of hl
    simp only [sideB] at hs
    have hrt : ∃ nm, rtT j = some (.object nm) := by
      revert hs
      cases rtT j with
      | none => simp
      | some t => cases t <;> simp
    simp only [stp] at hp
    split at hp
    · rename_i v
      exact s_ret (v := some (.ref v)) ⟨hd, hrt, Or.inr ⟨v, rfl⟩⟩ hp.1 hp.2.1 hp.2.2
    · exact s_ret (v := some .null) ⟨hd, hrt, Or.inl rfl⟩ hp.1 hp.2.1 hp.2.2
    · exact hp.elim
  | putfield v =>
    cases len_of hl
    simp only [stp] at hp
    split at hp
    · rename_i v0 a r
      split at hp
      · rename_i ci fs ha
        split at hp
        · rename_i hc
          obtain ⟨hci, hlen⟩ := hc
          subst hci
          split at hp
          · rename_i u ht
            exact s_putf (v := .int u) hd hs ha hlen (fun b sa ty htc => by rw [ht] at htc; cases ty <;> first | exact ⟨rfl, rfl⟩ | cases htc) (hκ _ _ _ _ _ _ _ rfl hp)
          · rename_i u ht
            refine s_putf (v := .int u) hd hs ha hlen (fun b sa ty htc => ?_) (hκ _ _ _ _ _ _ _ rfl hp.2)
            rw [ht] at htc
            rcases hp.1 with rfl | rfl <;> cases ty <;> first | exact ⟨rfl, rfl⟩ | cases htc
          · rename_i u ht
            exact s_putf (v := .ref u) hd hs ha hlen (fun b sa ty htc => by rw [ht] at htc; cases ty <;> first | exact ⟨rfl, rfl⟩ | cases htc) (hκ _ _ _ _ _ _ _ rfl hp)
          · exact hp.elim
        · exact hp.elim
      · exact hp.elim
    · exact hp.elim
  | invokevirtual v =>
    cases len_of hl
    simp only [stp, callP] at hp
    split at hp
    · rename_i as r hpop
      obtain ⟨h0, h1, h2, h3, h4⟩ := hp
      cases as with
      | nil => exact h0.elim
      | cons a as =>
        cases a with
        | ref a =>
          dsimp only at h0
          split at h0
          · rename_i ci fs ha
            subst h0
            exact s_invV hd hs hpop h1 h2 h3 ha h4
          · exact h0.elim
        | _ => exact h0.elim
    · exact hp.elim
  | invokestatic v =>
    cases len_of hl
    simp only [stp, callF] at hp
    by_cases hy3 : y = 3
    · rw [if_pos hy3] at hp
      split at hp
      · exact s_max hd hs hy3 hp.1 hp.2.1 hp.2.2.1 (hκ _ _ _ _ _ _ _ rfl hp.2.2.2)
      · exact hp.elim
    · rw [if_neg hy3] at hp
      by_cases hy4 : y = 4
      · rw [if_pos hy4] at hp
        split at hp
        · exact s_min hd hs hy4 hp.1 hp.2.1 hp.2.2.1 (hκ _ _ _ _ _ _ _ rfl hp.2.2.2)
        · exact hp.elim
      · rw [if_neg hy4] at hp
        split at hp
        · rename_i as r hpop
          obtain ⟨h1, h2, h3, h4⟩ := hp
          refine s_invS hd hs hy3 hy4 hpop h1 h2 h3 ?_
          split at h4
          · rename_i v hv
            exact hF _ _ v hv _ _ _ (hκ _ _ _ _ _ _ _ rfl h4)
          · exact h4
        · exact hp.elim
  | invokespecial v =>
    cases len_of hl
    simp only [stp, callP] at hp
    by_cases hy : y = 2
    · rw [if_pos hy] at hp
      split at hp
      · exact s_obj hd hs hy hp.1 (hκ _ _ _ _ _ _ _ rfl hp.2)
      · exact hp.elim
    · rw [if_neg hy] at hp
      split at hp
      · rename_i as r hpop
        obtain ⟨h0, h1, h2, h3, h4⟩ := hp
        cases as with
        | nil => exact h0.elim
        | cons a as =>
          cases a with
          | ref a => exact s_invI hd hs hy hpop h1 h2 h3 h4
          | _ => exact h0.elim
      · exact hp.elim
  | _ => exact hp.elim
theorem go_ok {F : Nat → List Value → Option Value} (hF : okF F) {C : Nat → Option aI} (hC : cdT j = C) (S : List Nat) : ∀ (f : Nat) {n k sl : Nat} {h : aH} {pc : Nat} {ls : List (Option Value)} {st : List Value}, ls.length ≤ mlT j → go F z j Q C S f n k sl h pc ls st → A z j n k sl h pc ls st Q := by
  intro f
  induction f with
  | zero => intro n k sl h pc ls st _ hg; exact hg
  | succ f ih =>
    intro n k sl h pc ls st hl hg
    rw [go] at hg
    split at hg
    · rename_i i len x y ps c d hc
      refine A_okC fun hok => ?_
      obtain ⟨g1, g2, g3⟩ := hok pc i len x y ps c d (by rw [hC]; exact hc)
      refine stp_ok hF (fun n k sl h pc ls' st he hk => ?_) hl g1 g2 g3 hg
      by_cases hi : inS S pc = true
      · rw [if_pos hi] at hk; exact hk
      · rw [if_neg hi] at hk; exact ih (by rw [he]; exact hl) hk
    · exact hg.elim
end Go
