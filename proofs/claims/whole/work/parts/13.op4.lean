/-! one instruction that is no jump and no call -/
section OPS5
variable {p : Program} {l : Launch} {e : Env} {R : Room} {s : State} {m : MethodId} {args : Array Value} {below : List Frame} {meth : Method} {c : Code} {Q : State → Prop} {D : va_G} {cy : Nat → ClassId} {b base : Nat} {w0 : sm_W} {nL : Nat}
variable {cc : ByteArray} {o : Nat} {L : Nat} {xs : Nat → Int32} {pc : Nat} {lv lv' : sm_L} {st st' : List Value} {w w' : sm_W}
variable {ini : Bool} {ret : Option FieldType} {bo : Bool} {bp : List Nat} {cb len : Nat} {rc si : sm_I}
set_option maxHeartbeats 4000000 in
theorem sm_op_ok (C : sm_C p s m args c D cy b base nL cc o L xs) (hini : ini = true → meth.name = "<init>") (he : sm_enc o ini nL ret bo bp cb pc len rc si = true) (hd : decode cc pc = .ok (rc, len)) (hop : sm_op L xs si lv st w = some (lv', st', w'))
    (hcap : base + w'.length ≤ s.heap.size + R.cells ∧ sm_sz w' ≤ sm_sz w0 + R.slots) (k : sm_KK p l e R s m args below meth c Q D cy b base w0 nL (pc + len) (lv') (st') (w')) : sm_KK p l e R s m args below meth c Q D cy b base w0 nL (pc) (lv) (st) (w) := by
  cases si with
  | iadd =>
    obtain ⟨rfl, rfl⟩ := sm_plain (rc := rc) (si := .iadd) (len := len) he
    simp only [sm_op] at hop
    split at hop
    · cases hop
      exact sm_ok_iadd C hd k
    · cases hop
  | isub =>
    obtain ⟨rfl, rfl⟩ := sm_plain (rc := rc) (si := .isub) (len := len) he
    simp only [sm_op] at hop
    split at hop
    · cases hop
      exact sm_ok_isub C hd k
    · cases hop
  | imul =>
    obtain ⟨rfl, rfl⟩ := sm_plain (rc := rc) (si := .imul) (len := len) he
    simp only [sm_op] at hop
    split at hop
    · cases hop
      exact sm_ok_imul C hd k
    · cases hop
  | iand =>
    obtain ⟨rfl, rfl⟩ := sm_plain (rc := rc) (si := .iand) (len := len) he
    simp only [sm_op] at hop
    split at hop
    · cases hop
      exact sm_ok_iand C hd k
    · cases hop
  | ior =>
    obtain ⟨rfl, rfl⟩ := sm_plain (rc := rc) (si := .ior) (len := len) he
    simp only [sm_op] at hop
    split at hop
    · cases hop
      exact sm_ok_ior C hd k
    · cases hop
  | ixor =>
    obtain ⟨rfl, rfl⟩ := sm_plain (rc := rc) (si := .ixor) (len := len) he
    simp only [sm_op] at hop
    split at hop
    · cases hop
      exact sm_ok_ixor C hd k
    · cases hop
  | ishl =>
    obtain ⟨rfl, rfl⟩ := sm_plain (rc := rc) (si := .ishl) (len := len) he
    simp only [sm_op] at hop
    split at hop
    · cases hop
      exact sm_ok_ishl C hd k
    · cases hop
  | ishr =>
    obtain ⟨rfl, rfl⟩ := sm_plain (rc := rc) (si := .ishr) (len := len) he
    simp only [sm_op] at hop
    split at hop
    · cases hop
      exact sm_ok_ishr C hd k
    · cases hop
  | ladd =>
    obtain ⟨rfl, rfl⟩ := sm_plain (rc := rc) (si := .ladd) (len := len) he
    simp only [sm_op] at hop
    split at hop
    · cases hop
      exact sm_ok_ladd C hd k
    · cases hop
  | lsub =>
    obtain ⟨rfl, rfl⟩ := sm_plain (rc := rc) (si := .lsub) (len := len) he
    simp only [sm_op] at hop
    split at hop
    · cases hop
      exact sm_ok_lsub C hd k
    · cases hop
  | lmul =>
    obtain ⟨rfl, rfl⟩ := sm_plain (rc := rc) (si := .lmul) (len := len) he
    simp only [sm_op] at hop
    split at hop
    · cases hop
      exact sm_ok_lmul C hd k
    · cases hop
  | land =>
    obtain ⟨rfl, rfl⟩ := sm_plain (rc := rc) (si := .land) (len := len) he
    simp only [sm_op] at hop
    split at hop
    · cases hop
      exact sm_ok_land C hd k
    · cases hop
  | lor =>
    obtain ⟨rfl, rfl⟩ := sm_plain (rc := rc) (si := .lor) (len := len) he
    simp only [sm_op] at hop
    split at hop
    · cases hop
      exact sm_ok_lor C hd k
    · cases hop
  | lxor =>
    obtain ⟨rfl, rfl⟩ := sm_plain (rc := rc) (si := .lxor) (len := len) he
    simp only [sm_op] at hop
    split at hop
    · cases hop
      exact sm_ok_lxor C hd k
    · cases hop
  | lshl =>
    obtain ⟨rfl, rfl⟩ := sm_plain (rc := rc) (si := .lshl) (len := len) he
    simp only [sm_op] at hop
    split at hop
    · cases hop
      exact sm_ok_lshl C hd k
    · cases hop
  | lushr =>
    obtain ⟨rfl, rfl⟩ := sm_plain (rc := rc) (si := .lushr) (len := len) he
    simp only [sm_op] at hop
    split at hop
    · cases hop
      exact sm_ok_lushr C hd k
    · cases hop
  | lcmp =>
    obtain ⟨rfl, rfl⟩ := sm_plain (rc := rc) (si := .lcmp) (len := len) he
    simp only [sm_op] at hop
    split at hop
    · cases hop
      exact sm_ok_lcmp C hd k
    · cases hop
  | i2l =>
    obtain ⟨rfl, rfl⟩ := sm_plain (rc := rc) (si := .i2l) (len := len) he
    simp only [sm_op] at hop
    split at hop
    · cases hop
      exact sm_ok_i2l C hd k
    · cases hop
  | l2i =>
    obtain ⟨rfl, rfl⟩ := sm_plain (rc := rc) (si := .l2i) (len := len) he
    simp only [sm_op] at hop
    split at hop
    · cases hop
      exact sm_ok_l2i C hd k
    · cases hop
  | idiv =>
    obtain ⟨rfl, rfl⟩ := sm_plain (rc := rc) (si := .idiv) (len := len) he
    simp only [sm_op] at hop
    split at hop
    · split at hop
      · cases hop
      · rename_i hne
        cases hop
        exact sm_ok_idiv C hd hne k
    · cases hop
  | irem =>
    obtain ⟨rfl, rfl⟩ := sm_plain (rc := rc) (si := .irem) (len := len) he
    simp only [sm_op] at hop
    split at hop
    · split at hop
      · cases hop
      · rename_i hne
        cases hop
        exact sm_ok_irem C hd hne k
    · cases hop
  | iconst n =>
    simp only [sm_op] at hop
    cases hop
    exact sm_ok_iconst C he hd k
  | ldc2_w n =>
    simp only [sm_op] at hop
    cases hop
    exact sm_ok_ldc2 C he hd k
  | aconst_null =>
    obtain ⟨rfl, rfl⟩ := sm_plain (rc := rc) (si := .aconst_null) (len := len) he
    simp only [sm_op] at hop
    cases hop
    exact sm_ok_null C hd k
  | iload i =>
    simp only [sm_op] at hop
    split at hop
    · rename_i x hg
      cases hop
      exact sm_ok_iload C he hd hg k
    · cases hop
  | lload i =>
    simp only [sm_op] at hop
    split at hop
    · rename_i x hg
      cases hop
      exact sm_ok_lload C he hd hg k
    · cases hop
  | aload i =>
    simp only [sm_op] at hop
    split at hop
    · rename_i x hg
      cases hop
      exact sm_ok_aload C (Or.inl ⟨_, rfl⟩) he hd hg k
    · rename_i hg
      cases hop
      exact sm_ok_aload C (Or.inr (Or.inl rfl)) he hd hg k
    · rename_i x hg
      cases hop
      exact sm_ok_aload C (Or.inr (Or.inr ⟨_, rfl⟩)) he hd hg k
    · cases hop
  | istore i =>
    simp only [sm_op] at hop
    split at hop
    · cases hop
      exact sm_ok_istore C he hd k
    · cases hop
  | lstore i =>
    simp only [sm_op] at hop
    split at hop
    · cases hop
      exact sm_ok_lstore C he hd k
    · cases hop
  | astore i =>
    simp only [sm_op] at hop
    split at hop
    · cases hop
      exact sm_ok_astore C (Or.inl ⟨_, rfl⟩) he hd k
    · cases hop
      exact sm_ok_astore C (Or.inr rfl) he hd k
    · cases hop
  | iinc i n =>
    simp only [sm_op] at hop
    split at hop
    · rename_i x hg
      cases hop
      exact sm_ok_iinc C he hd hg k
    · cases hop
  | dup =>
    obtain ⟨rfl, rfl⟩ := sm_plain (rc := rc) (si := .dup) (len := len) he
    simp only [sm_op] at hop
    split at hop
    · cases hop
      exact sm_ok_dup C rfl hd k
    · cases hop
      exact sm_ok_dup C rfl hd k
    · cases hop
  | dup2 =>
    obtain ⟨rfl, rfl⟩ := sm_plain (rc := rc) (si := .dup2) (len := len) he
    simp only [sm_op] at hop
    split at hop
    · cases hop
      exact sm_ok_dup2 C rfl rfl hd k
    · cases hop
  | pop =>
    obtain ⟨rfl, rfl⟩ := sm_plain (rc := rc) (si := .pop) (len := len) he
    simp only [sm_op] at hop
    split at hop
    · cases hop
      exact sm_ok_pop C rfl hd k
    · cases hop
  | getfield n =>
    simp only [sm_op] at hop
    split at hop
    · split at hop
      · rename_i v hf
        cases hop
        exact sm_ok_getf C he hd hf k
      · cases hop
    · cases hop
  | putfield n =>
    simp only [sm_op] at hop
    split at hop
    · split at hop
      · rename_i v hf
        cases hop
        exact sm_ok_putf C hini he hd hf k
      · cases hop
    · cases hop
  | iaload =>
    obtain ⟨rfl, rfl⟩ := sm_plain (rc := rc) (si := .iaload) (len := len) he
    simp only [sm_op] at hop
    split at hop
    · split at hop
      · split at hop
        · cases hop
        · cases hop
          exact sm_ok_iaload C hd (by assumption) (by assumption) k
      · cases hop
    · split at hop
      · cases hop
      · cases hop
        exact sm_ok_sload C hd (by assumption) k
    · cases hop
  | arraylength =>
    obtain ⟨rfl, rfl⟩ := sm_plain (rc := rc) (si := .arraylength) (len := len) he
    simp only [sm_op] at hop
    split at hop
    · split at hop
      · rename_i ha
        cases hop
        exact sm_ok_alen C hd ha k
      · cases hop
    · cases hop
      exact sm_ok_slen C hd k
    · cases hop
  | baload =>
    obtain ⟨rfl, rfl⟩ := sm_plain (rc := rc) (si := .baload) (len := len) he
    simp only [sm_op] at hop
    split at hop
    · split at hop
      · split at hop
        · cases hop
        · cases hop
          exact sm_ok_baload C hd (by assumption) (by assumption) k
      · cases hop
    · cases hop
  | laload =>
    obtain ⟨rfl, rfl⟩ := sm_plain (rc := rc) (si := .laload) (len := len) he
    simp only [sm_op] at hop
    split at hop
    · split at hop
      · split at hop
        · cases hop
        · cases hop
          exact sm_ok_laload C hd (by assumption) (by assumption) k
      · cases hop
    · cases hop
  | iastore =>
    obtain ⟨rfl, rfl⟩ := sm_plain (rc := rc) (si := .iastore) (len := len) he
    simp only [sm_op] at hop
    split at hop
    · split at hop
      · split at hop
        · cases hop
        · cases hop
          exact sm_ok_iastore C hd (by assumption) (by assumption) k
      · cases hop
    · cases hop
  | lastore =>
    obtain ⟨rfl, rfl⟩ := sm_plain (rc := rc) (si := .lastore) (len := len) he
    simp only [sm_op] at hop
    split at hop
    · split at hop
      · split at hop
        · cases hop
        · cases hop
          exact sm_ok_lastore C hd (by assumption) (by assumption) k
      · cases hop
    · cases hop
  | bastore =>
    obtain ⟨rfl, rfl⟩ := sm_plain (rc := rc) (si := .bastore) (len := len) he
    simp only [sm_op] at hop
    split at hop
    · split at hop
      · split at hop
        · cases hop
        · rename_i hi
          cases hop
          exact sm_ok_bastore C hd (by assumption) (fun h => hi (Or.inl h)) (Decidable.not_not.mp fun h => hi (Or.inr h)) k
      · cases hop
    · cases hop
  | aaload =>
    obtain ⟨rfl, rfl⟩ := sm_plain (rc := rc) (si := .aaload) (len := len) he
    simp only [sm_op, cond_eq_ite] at hop
    split at hop
    · split at hop
      · split at hop
        · rename_i ht
          split at hop
          · cases hop
          · cases hop
            simp only [Bool.or_eq_true] at ht
            exact sm_ok_aaload C (ht.imp Nat.eq_of_beq_eq_true Nat.eq_of_beq_eq_true) hd (by assumption) (by assumption) k
        · cases hop
      · cases hop
    · cases hop
  | aastore =>
    obtain ⟨rfl, rfl⟩ := sm_plain (rc := rc) (si := .aastore) (len := len) he
    simp only [sm_op, cond_eq_ite] at hop
    split at hop
    · split at hop
      · rename_i ha hv
        split at hop
        · rename_i ht
          split at hop
          · cases hop
          · cases hop
            simp only [Bool.or_eq_true, Bool.and_eq_true] at ht
            exact sm_ok_aastore C hd ha hv (ht.imp (fun h => ⟨Nat.eq_of_beq_eq_true h.1, Nat.eq_of_beq_eq_true h.2⟩) (fun h => ⟨Nat.eq_of_beq_eq_true h.1, h.2⟩)) (by assumption) k
        · cases hop
      · cases hop
    · split at hop
      · rename_i ha
        split at hop
        · rename_i ht
          split at hop
          · cases hop
          · cases hop
            have e4 := Nat.eq_of_beq_eq_true ht
            subst e4
            exact sm_ok_aastoreN C hd ha (by assumption) k
        · cases hop
      · cases hop
    · cases hop
  | new ci =>
    simp only [sm_op] at hop
    split at hop
    · rename_i fs hf
      cases hop
      rw [List.length_append, sm_sz_push] at hcap
      exact sm_ok_new C he hd hf hcap k
    · cases hop
  | newarray t =>
    have he2 : (decide (rc = .newarray t) && Nat.beq len 2) = true := he
    simp only [Bool.and_eq_true, decide_eq_true_eq] at he2
    obtain ⟨rfl, h2⟩ := he2
    have h2 := Nat.eq_of_beq_eq_true h2
    subst h2
    simp only [sm_op] at hop
    split at hop
    · split at hop
      · cases hop
      · split at hop
        · cases hop
          rw [List.length_append, sm_sz_push] at hcap
          exact sm_ok_newa_int C hd (by assumption) hcap k
        · cases hop
          rw [List.length_append, sm_sz_push] at hcap
          exact sm_ok_newa_long C hd (by assumption) hcap k
        · cases hop
          rw [List.length_append, sm_sz_push] at hcap
          exact sm_ok_newa_boolean C hd (by assumption) hcap k
        · cases hop
    · cases hop
  | anewarray t =>
    simp only [sm_enc] at he
    simp only [sm_op, cond_eq_ite] at hop
    split at he
    · simp only [Bool.and_eq_true] at he
      have h3 := Nat.eq_of_beq_eq_true he.2
      subst h3
      split at hop
      · split at hop
        · cases hop
        · split at hop
          · rename_i ht
            cases hop
            rw [List.length_append, sm_sz_push] at hcap
            simp only [Bool.or_eq_true] at ht
            rcases ht with ht | ht
            · have e3 := Nat.eq_of_beq_eq_true ht
              subst e3
              exact sm_ok_anew_3 C hd he.1 (by assumption) hcap k
            · have e3 := Nat.eq_of_beq_eq_true ht
              subst e3
              exact sm_ok_anew_4 C hd he.1 (by assumption) hcap k
          · cases hop
      · cases hop
    · cases he
  | checkcast n =>
    simp only [sm_op, cond_eq_ite] at hop
    split at hop
    · split at hop
      · split at hop
        · cases hop
          exact sm_ok_cast C he hd (by assumption) (by assumption) k
        · cases hop
      · cases hop
    · cases hop
  | instanceof n =>
    simp only [sm_op] at hop
    split at hop
    · split at hop
      · rename_i ha
        cases hs : sm_sub _ 12 with
        | true =>
          rw [hs] at hop
          cases hop
          exact sm_ok_inst C he hd ha hs k
        | false =>
          rw [hs] at hop
          cases hop
      · cases hop
    · cases hop
  | _ => (simp only [sm_op] at hop; cases hop)
end OPS5
