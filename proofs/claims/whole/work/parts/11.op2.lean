/-! the other instructions -/
section OPS3
variable {p : Program} {l : Launch} {e : Env} {R : Room} {s : State} {m : MethodId} {args : Array Value} {below : List Frame} {meth : Method} {c : Code} {Q : State → Prop} {D : va_G} {cy : Nat → ClassId} {b base : Nat} {w0 : sm_W} {nL : Nat}
variable {cc : ByteArray} {o : Nat} {L : Nat} {xs : Nat → Int32} {pc : Nat} {lv : sm_L} {r : List Value} {w : sm_W}
variable {ini : Bool} {ret : Option FieldType} {bo : Bool} {bp : List Nat} {cb len : Nat} {rc : sm_I}
theorem sm_LK_use {idx n k : Nat} (h : sm_inLK o idx n k = true) : (k = 0 → Cond.constant (sm_cn o) idx (Int32.ofInt (Int.ofNat n)) ∈ sm_ts) ∧ (k = 1 → Cond.constantLong (sm_cn o) idx (Int64.ofNat n) ∈ sm_ts) := by
  unfold sm_inLK at h
  obtain ⟨q, hq, h1⟩ := List.any_eq_true.mp h
  simp only [Bool.and_eq_true] at h1
  have e1 := Nat.eq_of_beq_eq_true h1.1.1.1
  have e2 := Nat.eq_of_beq_eq_true h1.1.1.2
  have e3 := Nat.eq_of_beq_eq_true h1.1.2
  have e4 := Nat.eq_of_beq_eq_true h1.2
  have h2 := List.all_eq_true.mp sm_okLK_ok q hq
  obtain ⟨q1, q2, q3, q4, q5⟩ := q
  dsimp only at e1 e2 e3 e4
  subst e1; subst e2; subst e3; subst e4
  unfold sm_okLK at h2
  constructor
  · rintro rfl
    exact sm_good (sm_at_mem h2) rfl
  · rintro rfl
    exact sm_good (sm_at_mem h2) rfl
theorem sm_ok_iconst (C : sm_C p s m args c D cy b base nL cc o L xs) {n : Int} (he : sm_enc o ini nL ret bo bp cb pc len rc (.iconst n) = true) (hd : decode cc pc = .ok (rc, len)) (k : sm_KK p l e R s m args below meth c Q D cy b base w0 nL (pc + len) (lv) (.int (Int32.ofInt n) :: r) (w)) : sm_KK p l e R s m args below meth c Q D cy b base w0 nL (pc) (lv) (r) (w) := by
  simp only [sm_enc] at he
  intro H locs cells slots ls J
  split at he
  · simp only [Bool.and_eq_true, decide_eq_true_eq] at he
    obtain ⟨rfl, h2⟩ := he
    have := Nat.eq_of_beq_eq_true h2
    subst this
    exact lv_iconst C.1 C.2.1 hd rfl (k H locs cells slots ls J)
  · simp only [Bool.and_eq_true, decide_eq_true_eq] at he
    obtain ⟨h1, h2⟩ := he
    have := Nat.eq_of_beq_eq_true h2
    subst this
    exact lv_bipush C.1 C.2.1 hd h1 (k H locs cells slots ls J)
  · simp only [Bool.and_eq_true, decide_eq_true_eq] at he
    obtain ⟨h1, h2⟩ := he
    have := Nat.eq_of_beq_eq_true h2
    subst this
    exact lv_sipush C.1 C.2.1 hd h1 (k H locs cells slots ls J)
  · simp only [Bool.and_eq_true, decide_eq_true_eq] at he
    obtain ⟨⟨h1, h3⟩, h2⟩ := he
    have := Nat.eq_of_beq_eq_true h2
    subst this
    have h4 := (sm_LK_use h3).1 rfl
    rw [h1] at h4
    exact lv_ldc C.1 C.2.1 C.2.2.1 (C.2.2.2.1 _ h4) hd (k H locs cells slots ls J)
  · cases he
theorem sm_ok_ldc2 (C : sm_C p s m args c D cy b base nL cc o L xs) {n : Nat} (he : sm_enc o ini nL ret bo bp cb pc len rc (.ldc2_w n) = true) (hd : decode cc pc = .ok (rc, len)) (k : sm_KK p l e R s m args below meth c Q D cy b base w0 nL (pc + len) (lv) (.long (Int64.ofNat n) :: r) (w)) : sm_KK p l e R s m args below meth c Q D cy b base w0 nL (pc) (lv) (r) (w) := by
  simp only [sm_enc] at he
  intro H locs cells slots ls J
  split at he
  · simp only [Bool.and_eq_true] at he
    have h1 := Nat.eq_of_beq_eq_true he.1
    have := Nat.eq_of_beq_eq_true he.2
    subst this
    subst h1
    exact lv_lconst C.1 C.2.1 hd rfl (k H locs cells slots ls J)
  · simp only [Bool.and_eq_true] at he
    have := Nat.eq_of_beq_eq_true he.2
    subst this
    exact lv_ldc2 C.1 C.2.1 C.2.2.1 (C.2.2.2.1 _ ((sm_LK_use he.1).2 rfl)) hd (k H locs cells slots ls J)
  · cases he
theorem sm_ok_null (C : sm_C p s m args c D cy b base nL cc o L xs) (hd : decode cc pc = .ok (.aconst_null, 1)) (k : sm_KK p l e R s m args below meth c Q D cy b base w0 nL (pc + 1) (lv) (.null :: r) (w)) : sm_KK p l e R s m args below meth c Q D cy b base w0 nL (pc) (lv) (r) (w) := by
  intro H locs cells slots ls J
  exact lv_null C.1 C.2.1 hd (k H locs cells slots ls J)
theorem sm_ok_iload (C : sm_C p s m args c D cy b base nL cc o L xs) {i : Nat} {x : Int32} (he : sm_enc o ini nL ret bo bp cb pc len rc (.iload i) = true) (hd : decode cc pc = .ok (rc, len)) (hg : sm_get lv i = some (.int x)) (k : sm_KK p l e R s m args below meth c Q D cy b base w0 nL (pc + len) (lv) (.int x :: r) (w)) : sm_KK p l e R s m args below meth c Q D cy b base w0 nL (pc) (lv) (r) (w) := by
  simp only [sm_enc] at he
  intro H locs cells slots ls J
  have hl := sm_lv_get J.2.2.1 hg
  split at he
  · simp only [Bool.and_eq_true] at he
    have h1 := Nat.eq_of_beq_eq_true he.1
    have := Nat.eq_of_beq_eq_true he.2
    subst this; subst h1
    exact lv_iload C.1 C.2.1 hd hl (k H locs cells slots ls J)
  · simp only [Bool.and_eq_true] at he
    have h1 := Nat.eq_of_beq_eq_true he.1
    have := Nat.eq_of_beq_eq_true he.2
    subst this
    exact lv_iload_n C.1 C.2.1 hd h1 hl (k H locs cells slots ls J)
  · cases he
theorem sm_ok_lload (C : sm_C p s m args c D cy b base nL cc o L xs) {i : Nat} {x : Int64} (he : sm_enc o ini nL ret bo bp cb pc len rc (.lload i) = true) (hd : decode cc pc = .ok (rc, len)) (hg : sm_get lv i = some (.long x)) (k : sm_KK p l e R s m args below meth c Q D cy b base w0 nL (pc + len) (lv) (.long x :: r) (w)) : sm_KK p l e R s m args below meth c Q D cy b base w0 nL (pc) (lv) (r) (w) := by
  simp only [sm_enc] at he
  intro H locs cells slots ls J
  have hl := sm_lv_get J.2.2.1 hg
  split at he
  · simp only [Bool.and_eq_true] at he
    have h1 := Nat.eq_of_beq_eq_true he.1
    have := Nat.eq_of_beq_eq_true he.2
    subst this; subst h1
    exact lv_lload C.1 C.2.1 hd hl (k H locs cells slots ls J)
  · simp only [Bool.and_eq_true] at he
    have h1 := Nat.eq_of_beq_eq_true he.1
    have := Nat.eq_of_beq_eq_true he.2
    subst this
    exact lv_lload_n C.1 C.2.1 hd h1 hl (k H locs cells slots ls J)
  · cases he
theorem sm_ok_aload (C : sm_C p s m args c D cy b base nL cc o L xs) {i : Nat} {x : Value} (hx : (∃ a, x = .ref a) ∨ x = .null ∨ ∃ a, x = .retAddr a) (he : sm_enc o ini nL ret bo bp cb pc len rc (.aload i) = true) (hd : decode cc pc = .ok (rc, len)) (hg : sm_get lv i = some x) (k : sm_KK p l e R s m args below meth c Q D cy b base w0 nL (pc + len) (lv) (x :: r) (w)) : sm_KK p l e R s m args below meth c Q D cy b base w0 nL (pc) (lv) (r) (w) := by
  simp only [sm_enc] at he
  intro H locs cells slots ls J
  have hl := sm_lv_get J.2.2.1 hg
  have hk := k H locs cells slots ls J
  split at he
  · simp only [Bool.and_eq_true] at he
    have h1 := Nat.eq_of_beq_eq_true he.1
    have := Nat.eq_of_beq_eq_true he.2
    subst this; subst h1
    rcases hx with ⟨a, rfl⟩ | rfl | ⟨a, rfl⟩
    · exact lv_aload C.1 C.2.1 hd hl hk
    · exact lv_aloadN C.1 C.2.1 hd hl hk
    · exact lv_aload C.1 C.2.1 hd hl hk
  · simp only [Bool.and_eq_true] at he
    have h1 := Nat.eq_of_beq_eq_true he.1
    have := Nat.eq_of_beq_eq_true he.2
    subst this
    rcases hx with ⟨a, rfl⟩ | rfl | ⟨a, rfl⟩
    · exact lv_aload_n C.1 C.2.1 hd h1 hl hk
    · exact lv_aload_nN C.1 C.2.1 hd h1 hl hk
    · exact lv_aload_n C.1 C.2.1 hd h1 hl hk
  · cases he
theorem sm_ok_istore (C : sm_C p s m args c D cy b base nL cc o L xs) {i : Nat} {x : Int32} (he : sm_enc o ini nL ret bo bp cb pc len rc (.istore i) = true) (hd : decode cc pc = .ok (rc, len)) (k : sm_KK p l e R s m args below meth c Q D cy b base w0 nL (pc + len) (sm_put lv i (.int x)) (r) (w)) : sm_KK p l e R s m args below meth c Q D cy b base w0 nL (pc) (lv) (.int x :: r) (w) := by
  simp only [sm_enc, Bool.and_eq_true] at he
  obtain ⟨he, hn⟩ := he
  have hn := Nat.le_of_ble_eq_true hn
  intro H locs cells slots ls J
  split at he
  · simp only [Bool.and_eq_true] at he
    have h1 := Nat.eq_of_beq_eq_true he.1
    have := Nat.eq_of_beq_eq_true he.2
    subst this; subst h1
    exact lv_istore C.1 C.2.1 hd J.2.2.1 hn (sm_put_map b base lv _ (.int x)) (fun ls' hl' => k H locs cells slots ls' (J.lvs hl'))
  · simp only [Bool.and_eq_true] at he
    have h1 := Nat.eq_of_beq_eq_true he.1
    have := Nat.eq_of_beq_eq_true he.2
    subst this
    exact lv_istore_n C.1 C.2.1 hd h1 J.2.2.1 hn (sm_put_map b base lv _ (.int x)) (fun ls' hl' => k H locs cells slots ls' (J.lvs hl'))
  · cases he
theorem sm_ok_lstore (C : sm_C p s m args c D cy b base nL cc o L xs) {i : Nat} {x : Int64} (he : sm_enc o ini nL ret bo bp cb pc len rc (.lstore i) = true) (hd : decode cc pc = .ok (rc, len)) (k : sm_KK p l e R s m args below meth c Q D cy b base w0 nL (pc + len) (sm_put2 lv i (.long x)) (r) (w)) : sm_KK p l e R s m args below meth c Q D cy b base w0 nL (pc) (lv) (.long x :: r) (w) := by
  simp only [sm_enc, Bool.and_eq_true] at he
  obtain ⟨he, hn⟩ := he
  have hn := Nat.le_of_ble_eq_true hn
  intro H locs cells slots ls J
  split at he
  · simp only [Bool.and_eq_true] at he
    have h1 := Nat.eq_of_beq_eq_true he.1
    have := Nat.eq_of_beq_eq_true he.2
    subst this; subst h1
    exact lv_lstore C.1 C.2.1 hd J.2.2.1 hn (sm_put2_map b base lv _ (.long x)) (fun ls' hl' => k H locs cells slots ls' (J.lvs hl'))
  · simp only [Bool.and_eq_true] at he
    have h1 := Nat.eq_of_beq_eq_true he.1
    have := Nat.eq_of_beq_eq_true he.2
    subst this
    exact lv_lstore_n C.1 C.2.1 hd h1 J.2.2.1 hn (sm_put2_map b base lv _ (.long x)) (fun ls' hl' => k H locs cells slots ls' (J.lvs hl'))
  · cases he
theorem sm_ok_astore (C : sm_C p s m args c D cy b base nL cc o L xs) {i : Nat} {x : Value} (hx : (∃ a, x = .ref a) ∨ x = .null) (he : sm_enc o ini nL ret bo bp cb pc len rc (.astore i) = true) (hd : decode cc pc = .ok (rc, len)) (k : sm_KK p l e R s m args below meth c Q D cy b base w0 nL (pc + len) (sm_put lv i x) (r) (w)) : sm_KK p l e R s m args below meth c Q D cy b base w0 nL (pc) (lv) (x :: r) (w) := by
  simp only [sm_enc, Bool.and_eq_true] at he
  obtain ⟨he, hn⟩ := he
  have hn := Nat.le_of_ble_eq_true hn
  intro H locs cells slots ls J
  split at he
  · simp only [Bool.and_eq_true] at he
    have h1 := Nat.eq_of_beq_eq_true he.1
    have := Nat.eq_of_beq_eq_true he.2
    subst this; subst h1
    rcases hx with ⟨a, rfl⟩ | rfl
    · exact lv_astore C.1 C.2.1 hd J.2.2.1 hn (sm_put_map b base lv _ (.ref a)) (fun ls' hl' => k H locs cells slots ls' (J.lvs hl'))
    · exact lv_astoreN C.1 C.2.1 hd J.2.2.1 hn (sm_put_map b base lv _ .null) (fun ls' hl' => k H locs cells slots ls' (J.lvs hl'))
  · simp only [Bool.and_eq_true] at he
    have h1 := Nat.eq_of_beq_eq_true he.1
    have := Nat.eq_of_beq_eq_true he.2
    subst this
    rcases hx with ⟨a, rfl⟩ | rfl
    · exact lv_astore_n C.1 C.2.1 hd h1 J.2.2.1 hn (sm_put_map b base lv _ (.ref a)) (fun ls' hl' => k H locs cells slots ls' (J.lvs hl'))
    · exact lv_astore_nN C.1 C.2.1 hd h1 J.2.2.1 hn (sm_put_map b base lv _ .null) (fun ls' hl' => k H locs cells slots ls' (J.lvs hl'))
  · cases he
theorem sm_ok_iinc (C : sm_C p s m args c D cy b base nL cc o L xs) {i : Nat} {n : Int} {x : Int32} (he : sm_enc o ini nL ret bo bp cb pc len rc (.iinc i n) = true) (hd : decode cc pc = .ok (rc, len)) (hg : sm_get lv i = some (.int x)) (k : sm_KK p l e R s m args below meth c Q D cy b base w0 nL (pc + len) (sm_put lv i (.int (x + Int32.ofInt n))) (r) (w)) : sm_KK p l e R s m args below meth c Q D cy b base w0 nL (pc) (lv) (r) (w) := by
  simp only [sm_enc, Bool.and_eq_true] at he
  obtain ⟨he, hn⟩ := he
  have hn := Nat.le_of_ble_eq_true hn
  intro H locs cells slots ls J
  split at he
  · simp only [Bool.and_eq_true, decide_eq_true_eq] at he
    obtain ⟨⟨h1, rfl⟩, h2⟩ := he
    have h1 := Nat.eq_of_beq_eq_true h1
    have := Nat.eq_of_beq_eq_true h2
    subst this; subst h1
    have hm : (_, Value.int x) ∈ sm_lm b base lv := List.mem_map.mpr ⟨(_, .int x), sm_get_mem hg, rfl⟩
    obtain ⟨q, hq⟩ := List.getElem?_of_mem hm
    exact lv_iinc C.1 C.2.1 hd J.2.2.1 hq rfl hn (sm_put_map b base lv _ (.int (x + Int32.ofInt _))) (fun ls' hl' => k H locs cells slots ls' (J.lvs hl'))
  · cases he
theorem sm_ok_dup (C : sm_C p s m args c D cy b base nL cc o L xs) {x : Value} (hx : x.category = 1) (hd : decode cc pc = .ok (.dup, 1)) (k : sm_KK p l e R s m args below meth c Q D cy b base w0 nL (pc + 1) (lv) (x :: x :: r) (w)) : sm_KK p l e R s m args below meth c Q D cy b base w0 nL (pc) (lv) (x :: r) (w) := by
  intro H locs cells slots ls J
  exact lv_dup C.1 C.2.1 hd (by rw [sm_v_cat]; exact hx) (k H locs cells slots ls J)
theorem sm_ok_dup2 (C : sm_C p s m args c D cy b base nL cc o L xs) {x y : Value} (hx : x.category = 1) (hy : y.category = 1) (hd : decode cc pc = .ok (.dup2, 1)) (k : sm_KK p l e R s m args below meth c Q D cy b base w0 nL (pc + 1) (lv) (y :: x :: y :: x :: r) (w)) : sm_KK p l e R s m args below meth c Q D cy b base w0 nL (pc) (lv) (y :: x :: r) (w) := by
  intro H locs cells slots ls J
  exact lv_dup2_11 C.1 C.2.1 hd (by rw [sm_v_cat]; exact hy) (by rw [sm_v_cat]; exact hx) (k H locs cells slots ls J)
theorem sm_ok_pop (C : sm_C p s m args c D cy b base nL cc o L xs) {x : Value} (hx : x.category = 1) (hd : decode cc pc = .ok (.pop, 1)) (k : sm_KK p l e R s m args below meth c Q D cy b base w0 nL (pc + 1) (lv) (r) (w)) : sm_KK p l e R s m args below meth c Q D cy b base w0 nL (pc) (lv) (x :: r) (w) := by
  intro H locs cells slots ls J
  exact lv_pop C.1 C.2.1 hd (by rw [sm_v_cat]; exact hx) (k H locs cells slots ls J)
theorem sm_ci {H : Heap} {a ci : Nat} {fs : List Value} (hP : va_P D sm_cl (sm_ws cy b base w) H) (h : w[a]? = some (.inr (ci, fs))) : ci < 12 := by
  obtain ⟨q, hq, -⟩ := hP a _ (sm_ws_get h)
  have := (List.getElem?_eq_some_iff.mp hq).1
  simpa [sm_cl] using this
theorem sm_LF_use {idx n ci : Nat} (h : sm_inLF o idx n = true) (hc : ci < 12) (hs : sm_sub ci (n / 512) = true) : ∃ ref : String, n / 4 % 128 < sm_N ci ∧ Cond.fieldLink (sm_cn o) idx ref (sm_T ci (n / 4 % 128)).2.1 (sm_T ci (n / 4 % 128)).2.2.1 ∈ sm_ts
    ∧ (ref = (sm_T ci (n / 4 % 128)).1 ∨ Cond.sameField ref (sm_T ci (n / 4 % 128)).1 (sm_T ci (n / 4 % 128)).2.1 (sm_T ci (n / 4 % 128)).2.2.1 ∈ sm_ts)
    ∧ (match sm_ty ci (n / 4 % 128) with | .int => Nat.beq (n % 4) 0 | .long => Nat.beq (n % 4) 1 | .boolean => Nat.beq (n % 4) 2 | .object _ => Nat.beq (n % 4) 3 | .array _ => Nat.beq (n % 4) 3 | _ => false) = true := by
  unfold sm_inLF at h
  obtain ⟨q, hq, h1⟩ := List.any_eq_true.mp h
  simp only [Bool.and_eq_true] at h1
  have e1 := Nat.eq_of_beq_eq_true h1.1.1
  have e2 := Nat.eq_of_beq_eq_true h1.1.2
  have e3 := Nat.eq_of_beq_eq_true h1.2
  have h2 := List.all_eq_true.mp sm_okLF_ok q hq
  obtain ⟨q1, q2, q3, q4, q5, q6⟩ := q
  dsimp only at e1 e2 e3
  subst e1; subst e2; subst e3
  unfold sm_okLF at h2
  have h3 := List.all_eq_true.mp h2 ci (List.mem_range.mpr hc)
  rw [hs] at h3
  simp only [Bool.not_true, Bool.false_or, Bool.and_eq_true, Bool.or_eq_true, decide_eq_true_eq] at h3
  obtain ⟨⟨⟨g1, g2⟩, g3⟩, g4⟩ := h3
  exact ⟨q4, Nat.le_of_ble_eq_true g1, sm_good (sm_at_mem g2) rfl, g3.imp id (fun g => sm_good (sm_at_mem g) rfl), g4⟩
theorem sm_same (C : sm_C p s m args c D cy b base nL cc o L xs) {ci k : Nat} {ref : String} (h : ref = (sm_T ci k).1 ∨ Cond.sameField ref (sm_T ci k).1 (sm_T ci k).2.1 (sm_T ci k).2.2.1 ∈ sm_ts) : ∀ x, s.fieldFound? (sm_T ci k).1 (sm_T ci k).2.1 (sm_T ci k).2.2.1 = some x → s.fieldFound? ref (sm_T ci k).2.1 (sm_T ci k).2.2.1 = some x := by
  intro x hx
  rcases h with h | h
  · rw [h]; exact hx
  · exact u_same (C.2.2.2.1 _ h) x hx
theorem sm_ok_getf (C : sm_C p s m args c D cy b base nL cc o L xs) {n a : Nat} {v : Value} (he : sm_enc o ini nL ret bo bp cb pc len rc (.getfield n) = true) (hd : decode cc pc = .ok (rc, len)) (hf : sm_fd w a n = some v) (k : sm_KK p l e R s m args below meth c Q D cy b base w0 nL (pc + len) (lv) (v :: r) (w)) : sm_KK p l e R s m args below meth c Q D cy b base w0 nL (pc) (lv) (.ref a :: r) (w) := by
  simp only [sm_enc] at he
  obtain ⟨ci, fs, h1, h2, h3⟩ := sm_fd_some hf
  intro H locs cells slots ls J
  have hc := sm_ci J.1 h1
  split at he
  · simp only [Bool.and_eq_true] at he
    have := Nat.eq_of_beq_eq_true he.2
    subst this
    obtain ⟨ref, g1, g2, g3, -⟩ := sm_LF_use he.1 hc h2
    exact va_get C.1 C.2.1 C.2.2.2.1 (sm_cin hc) C.2.2.1 C.2.2.2.2.1.1 J.1 a (sm_ws_get h1) (sm_cl_get hc) (n / 4 % 128) g1 (C.2.2.2.1 _ g2) (sm_same C g3) (by rw [List.getElem?_map, h3]; rfl) hd (k H locs cells slots ls J)
  · cases he
theorem sm_fits {ty : FieldType} {t : Nat} {v : Value} (ht : (match ty with | .int => Nat.beq t 0 | .long => Nat.beq t 1 | .boolean => Nat.beq t 2 | .object _ => Nat.beq t 3 | .array _ => Nat.beq t 3 | _ => false) = true) (hv : sm_fok t v = true) : narrow ty (sm_v b base v) = sm_v b base v ∧ fits ty (sm_v b base v) = true := by
  cases ty <;> first | (cases ht; done) | (have e := Nat.eq_of_beq_eq_true ht; subst e; cases v <;> first | (simp [sm_fok] at hv; done) | exact ⟨rfl, rfl⟩ | skip)
  rename_i x
  simp [sm_fok] at hv
  rcases hv with rfl | rfl <;> exact ⟨rfl, rfl⟩
theorem sm_ok_putf (C : sm_C p s m args c D cy b base nL cc o L xs) (hini : ini = true → meth.name = "<init>") {n a : Nat} {v : Value} {w' : sm_W} (he : sm_enc o ini nL ret bo bp cb pc len rc (.putfield n) = true) (hd : decode cc pc = .ok (rc, len)) (hf : sm_pf w a n v = some w') (k : sm_KK p l e R s m args below meth c Q D cy b base w0 nL (pc + len) (lv) (r) (w')) : sm_KK p l e R s m args below meth c Q D cy b base w0 nL (pc) (lv) (v :: .ref a :: r) (w) := by
  simp only [sm_enc, Bool.and_eq_true] at he
  obtain ⟨he, hfin⟩ := he
  obtain ⟨ci, fs, h1, h2, h3, h4, rfl⟩ := sm_pf_some hf
  intro H locs cells slots ls J
  have hc := sm_ci J.1 h1
  split at he
  · simp only [Bool.and_eq_true] at he
    have := Nat.eq_of_beq_eq_true he.2
    subst this
    obtain ⟨ref, g1, g2, g3, g4⟩ := sm_LF_use he.1 hc h2
    have hfi := List.all_eq_true.mp hfin ci (List.mem_range.mpr hc)
    rw [h2] at hfi
    obtain ⟨hn, hfit⟩ := sm_fits (b := b) (base := base) g4 h4
    have hkk : ∀ (H1 : Heap) (locs1 : List Loc), va_P D sm_cl ((sm_ws cy b base w).set a (base + a, .inr (ci, (fs.map (sm_v b base)).set (n / 4 % 128) (sm_v b base v)))) H1 → va_D (fun q => base ≤ q) ((sm_ws cy b base w).set a (base + a, .inr (ci, (fs.map (sm_v b base)).set (n / 4 % 128) (sm_v b base v)))) → va_S (fun q => base ≤ q) s.heap H1 locs1 → W p l e R s m args below meth c H1 locs1 cells slots Q (F0 m (pc + 3) ls (r.map (sm_v b base))) := by
      intro H1 locs1 hP1 _ hS1
      refine k H1 locs1 cells slots ls (J.store h1 (by simp [sm_sl]) ?_ hS1)
      show va_P D sm_cl ((sm_ws cy b base w).set a (base + a, .inr (ci, (fs.set (n / 4 % 128) v).map (sm_v b base)))) H1
      rw [List.map_set]
      exact hP1
    cases hb : (sm_T ci (n / 4 % 128)).2.2.2 with
    | false => exact va_put C.1 C.2.1 C.2.2.2.1 (sm_cin hc) (sm_ty ci) (sm_cty hc) (sm_cnm hc) C.2.2.1 C.2.2.2.2.1.1 J.1 (sm_ws_D cy b base w) J.2.1 a (sm_ws_get h1) (sm_cl_get hc) (n / 4 % 128) g1 (C.2.2.2.1 _ g2) (sm_same C g3) hb (sm_cty hc _ g1) hn hfit (by rw [List.length_map]; exact h3) hd hkk
    | true =>
      rw [hb] at hfi
      simp only [Bool.not_true, Bool.false_or, Bool.and_eq_true, decide_eq_true_eq] at hfi
      exact va_putF C.1 C.2.1 C.2.2.2.1 (sm_cin hc) (sm_ty ci) (sm_cty hc) (sm_cnm hc) C.2.2.1 C.2.2.2.2.1.1 J.1 (sm_ws_D cy b base w) J.2.1 a (sm_ws_get h1) (sm_cl_get hc) (n / 4 % 128) g1 (C.2.2.2.1 _ g2) (sm_same C g3) hb (hini hfi.1) hfi.2 (sm_cty hc _ g1) hn hfit (by rw [List.length_map]; exact h3) hd hkk
  · cases he
end OPS3
