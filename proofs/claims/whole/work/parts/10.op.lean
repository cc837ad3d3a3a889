/-! one instruction of the small machine is one of the machine -/
theorem sm_pf_some {w w' : sm_W} {a n : Nat} {v : Value} (h : sm_pf w a n v = some w') : ∃ (ci : Nat) (fs : List Value), w[a]? = some (.inr (ci, fs)) ∧ sm_sub ci (n / 512) = true ∧ n / 4 % 128 < fs.length ∧ sm_fok (n % 4) v = true ∧ w' = w.set a (.inr (ci, fs.set (n / 4 % 128) v)) := by
  unfold sm_pf at h
  split at h
  · rename_i ci fs he
    cases hb : (sm_sub ci (n / 512) && (Nat.ble (n / 4 % 128 + 1) fs.length && sm_fok (n % 4) v)) with
    | false => rw [hb] at h; cases h
    | true =>
      rw [hb] at h
      simp only [Bool.and_eq_true] at hb
      cases h
      exact ⟨ci, fs, he, hb.1, Nat.le_of_ble_eq_true hb.2.1, hb.2.2, rfl⟩
  · cases h
theorem sm_fd_some {w : sm_W} {a n : Nat} {v : Value} (h : sm_fd w a n = some v) : ∃ (ci : Nat) (fs : List Value), w[a]? = some (.inr (ci, fs)) ∧ sm_sub ci (n / 512) = true ∧ fs[n / 4 % 128]? = some v := by
  unfold sm_fd at h
  split at h
  · rename_i ci fs he
    cases hb : sm_sub ci (n / 512) with
    | false => rw [hb] at h; cases h
    | true => rw [hb] at h; exact ⟨ci, fs, he, hb, h⟩
  · cases h
theorem sm_m_refl (w : sm_W) : w.length ≤ w.length ∧ sm_sz w ≤ sm_sz w := ⟨Nat.le_refl _, Nat.le_refl _⟩
theorem sm_m_set {w : sm_W} {a : Nat} {x y : va_E} (h : w[a]? = some x) (e : sm_sl y = sm_sl x) : w.length ≤ (w.set a y).length ∧ sm_sz w ≤ sm_sz (w.set a y) := ⟨by rw [List.length_set]; exact Nat.le_refl _, by rw [sm_sz_set h e]; exact Nat.le_refl _⟩
theorem sm_m_push (w : sm_W) (x : va_E) : w.length ≤ (w ++ [x]).length ∧ sm_sz w ≤ sm_sz (w ++ [x]) := ⟨by simp, by rw [sm_sz_push]; exact Nat.le_add_right _ _⟩
set_option maxHeartbeats 4000000 in
theorem sm_op_mono {L : Nat} {xs : Nat → Int32} {i : sm_I} {lv lv' : sm_L} {st st' : List Value} {w w' : sm_W} (h : sm_op L xs i lv st w = some (lv', st', w')) : w.length ≤ w'.length ∧ sm_sz w ≤ sm_sz w' := by
  unfold sm_op at h
  split at h
  all_goals (repeat' (split at h))
  all_goals (try (simp only [cond_eq_ite] at h))
  all_goals (repeat' (split at h))
  all_goals (cases h)
  all_goals first
    | exact sm_m_refl _
    | exact sm_m_push _ _
    | (refine sm_m_set (by assumption) ?_; rfl)
    | (rename_i hpf; obtain ⟨ci, fs, h1, -, -, -, rfl⟩ := sm_pf_some hpf; exact sm_m_set h1 (by simp [sm_sl]))
section OPS
variable (p : Program) (l : Launch) (e : Env) (R : Room) (s : State) (m : MethodId) (args : Array Value) (below : List Frame) (meth : Method) (c : Code) (Q : State → Prop) (D : va_G) (cy : Nat → ClassId) (b base : Nat) (w0 : sm_W) (nL : Nat)
/-- the real state stands for the small one -/
def sm_J (w : sm_W) (lv : sm_L) (H : Heap) (locs : List Loc) (cells slots : Nat) (ls : Array Slot) : Prop :=
  va_P D sm_cl (sm_ws cy b base w) H ∧ va_S (fun q => base ≤ q) s.heap H locs ∧ lv_has ls nL (sm_lm b base lv) ∧ s.heap.size + cells = base + w.length ∧ sm_sz w0 + slots = sm_sz w
def sm_KK (pc : Nat) (lv : sm_L) (st : List Value) (w : sm_W) : Prop :=
  ∀ (H : Heap) (locs : List Loc) (cells slots : Nat) (ls : Array Slot), sm_J s D cy b base w0 nL w lv H locs cells slots ls → W p l e R s m args below meth c H locs cells slots Q (F0 m pc ls (st.map (sm_v b base)))
def sm_C (cc : ByteArray) (o : Nat) (L : Nat) (xs : Nat → Int32) : Prop :=
  p.tables.exec = Jvm.exec ∧ c.code = cc ∧ s.vm.findClass (sm_cn o) = some m.cls ∧ (∀ w ∈ sm_ts, w.before args s = true) ∧ sm_K D cy s ∧ va_X b L xs s s.heap ∧ b < base ∧ base ≤ s.heap.size ∧ c.maxLocals = nL
end OPS
section OPS2
variable {p : Program} {l : Launch} {e : Env} {R : Room} {s : State} {m : MethodId} {args : Array Value} {below : List Frame} {meth : Method} {c : Code} {Q : State → Prop} {D : va_G} {cy : Nat → ClassId} {b base : Nat} {w0 : sm_W} {nL : Nat}
variable {cc : ByteArray} {o : Nat} {L : Nat} {xs : Nat → Int32} {pc : Nat} {lv : sm_L} {r : List Value} {w : sm_W}
theorem sm_J.store {w : sm_W} {lv : sm_L} {H H1 : Heap} {locs locs1 : List Loc} {cells slots : Nat} {ls : Array Slot} {a : Nat} {x y : va_E} (J : sm_J s D cy b base w0 nL w lv H locs cells slots ls) (hx : w[a]? = some x) (he : sm_sl y = sm_sl x)
    (hP : va_P D sm_cl ((sm_ws cy b base w).set a (base + a, sm_e cy b base y)) H1) (hS : va_S (fun q => base ≤ q) s.heap H1 locs1) : sm_J s D cy b base w0 nL (w.set a y) lv H1 locs1 cells slots ls := by
  obtain ⟨-, -, h3, h4, h5⟩ := J
  rw [sm_ws_set] at hP
  exact ⟨hP, hS, h3, by rw [List.length_set]; exact h4, by rw [sm_sz_set hx he]; exact h5⟩
theorem sm_J.lvs {w : sm_W} {lv lv' : sm_L} {H : Heap} {locs : List Loc} {cells slots : Nat} {ls ls' : Array Slot} (J : sm_J s D cy b base w0 nL w lv H locs cells slots ls) (h : lv_has ls' nL (sm_lm b base lv')) : sm_J s D cy b base w0 nL w lv' H locs cells slots ls' :=
  ⟨J.1, J.2.1, h, J.2.2.2⟩
/-- the heap ends where the world ends -/
theorem sm_J.size {lv : sm_L} {H : Heap} {locs : List Loc} {cells slots : Nat} {ls : Array Slot} {g : JFrame} (J : sm_J s D cy b base w0 nL w lv H locs cells slots ls) (hbase : base ≤ s.heap.size)
    (k : H.size = base + w.length → W p l e R s m args below meth c H locs cells slots Q g) : W p l e R s m args below meth c H locs cells slots Q g := by
  intro T hT X
  have h1 := X.heapSize
  rw [hT, J.2.2.2.1] at h1
  have h2 : base + w.length ≤ H.size := by
    rcases Nat.eq_zero_or_pos w.length with h0 | h0
    · have := J.2.1.1
      omega
    · have hlt : w.length - 1 < w.length := by omega
      have h3 := (J.1 (w.length - 1) _ (sm_ws_get (List.getElem?_eq_getElem hlt))).lt
      dsimp only at h3
      omega
  exact k (Nat.le_antisymm h1 h2) T hT X
theorem sm_plain {rc si : sm_I} {len : Nat} (h : (decide (rc = si) && Nat.beq len 1) = true) : rc = si ∧ len = 1 := by
  simp only [Bool.and_eq_true, decide_eq_true_eq] at h
  exact ⟨h.1, Nat.eq_of_beq_eq_true h.2⟩
theorem sm_ok_iadd (C : sm_C p s m args c D cy b base nL cc o L xs) {x y : Int32} (hd : decode cc pc = .ok (.iadd, 1)) (k : sm_KK p l e R s m args below meth c Q D cy b base w0 nL (pc + 1) (lv) (.int (x + y) :: r) (w)) : sm_KK p l e R s m args below meth c Q D cy b base w0 nL (pc) (lv) (.int y :: .int x :: r) (w) := by
  intro H locs cells slots ls J
  exact lv_iadd C.1 C.2.1 hd (k H locs cells slots ls J)

theorem sm_ok_isub (C : sm_C p s m args c D cy b base nL cc o L xs) {x y : Int32} (hd : decode cc pc = .ok (.isub, 1)) (k : sm_KK p l e R s m args below meth c Q D cy b base w0 nL (pc + 1) (lv) (.int (x - y) :: r) (w)) : sm_KK p l e R s m args below meth c Q D cy b base w0 nL (pc) (lv) (.int y :: .int x :: r) (w) := by
  intro H locs cells slots ls J
  exact lv_isub C.1 C.2.1 hd (k H locs cells slots ls J)

theorem sm_ok_imul (C : sm_C p s m args c D cy b base nL cc o L xs) {x y : Int32} (hd : decode cc pc = .ok (.imul, 1)) (k : sm_KK p l e R s m args below meth c Q D cy b base w0 nL (pc + 1) (lv) (.int (x * y) :: r) (w)) : sm_KK p l e R s m args below meth c Q D cy b base w0 nL (pc) (lv) (.int y :: .int x :: r) (w) := by
  intro H locs cells slots ls J
  exact lv_imul C.1 C.2.1 hd (k H locs cells slots ls J)

theorem sm_ok_iand (C : sm_C p s m args c D cy b base nL cc o L xs) {x y : Int32} (hd : decode cc pc = .ok (.iand, 1)) (k : sm_KK p l e R s m args below meth c Q D cy b base w0 nL (pc + 1) (lv) (.int (x &&& y) :: r) (w)) : sm_KK p l e R s m args below meth c Q D cy b base w0 nL (pc) (lv) (.int y :: .int x :: r) (w) := by
  intro H locs cells slots ls J
  exact lv_iand C.1 C.2.1 hd (k H locs cells slots ls J)

theorem sm_ok_ior (C : sm_C p s m args c D cy b base nL cc o L xs) {x y : Int32} (hd : decode cc pc = .ok (.ior, 1)) (k : sm_KK p l e R s m args below meth c Q D cy b base w0 nL (pc + 1) (lv) (.int (x ||| y) :: r) (w)) : sm_KK p l e R s m args below meth c Q D cy b base w0 nL (pc) (lv) (.int y :: .int x :: r) (w) := by
  intro H locs cells slots ls J
  exact lv_ior C.1 C.2.1 hd (k H locs cells slots ls J)

theorem sm_ok_ixor (C : sm_C p s m args c D cy b base nL cc o L xs) {x y : Int32} (hd : decode cc pc = .ok (.ixor, 1)) (k : sm_KK p l e R s m args below meth c Q D cy b base w0 nL (pc + 1) (lv) (.int (x ^^^ y) :: r) (w)) : sm_KK p l e R s m args below meth c Q D cy b base w0 nL (pc) (lv) (.int y :: .int x :: r) (w) := by
  intro H locs cells slots ls J
  exact lv_ixor C.1 C.2.1 hd (k H locs cells slots ls J)

theorem sm_ok_ishl (C : sm_C p s m args c D cy b base nL cc o L xs) {x y : Int32} (hd : decode cc pc = .ok (.ishl, 1)) (k : sm_KK p l e R s m args below meth c Q D cy b base w0 nL (pc + 1) (lv) (.int (x <<< (y &&& 31)) :: r) (w)) : sm_KK p l e R s m args below meth c Q D cy b base w0 nL (pc) (lv) (.int y :: .int x :: r) (w) := by
  intro H locs cells slots ls J
  exact lv_ishl C.1 C.2.1 hd (k H locs cells slots ls J)

theorem sm_ok_ishr (C : sm_C p s m args c D cy b base nL cc o L xs) {x y : Int32} (hd : decode cc pc = .ok (.ishr, 1)) (k : sm_KK p l e R s m args below meth c Q D cy b base w0 nL (pc + 1) (lv) (.int (x >>> (y &&& 31)) :: r) (w)) : sm_KK p l e R s m args below meth c Q D cy b base w0 nL (pc) (lv) (.int y :: .int x :: r) (w) := by
  intro H locs cells slots ls J
  exact lv_ishr C.1 C.2.1 hd (k H locs cells slots ls J)

theorem sm_ok_idiv (C : sm_C p s m args c D cy b base nL cc o L xs) {x y : Int32} (hd : decode cc pc = .ok (.idiv, 1)) (hne : ¬ y = 0) (k : sm_KK p l e R s m args below meth c Q D cy b base w0 nL (pc + 1) (lv) (.int (x / y) :: r) (w)) : sm_KK p l e R s m args below meth c Q D cy b base w0 nL (pc) (lv) (.int y :: .int x :: r) (w) := by
  intro H locs cells slots ls J
  exact lv_idiv C.1 C.2.1 hd hne (k H locs cells slots ls J)

theorem sm_ok_irem (C : sm_C p s m args c D cy b base nL cc o L xs) {x y : Int32} (hd : decode cc pc = .ok (.irem, 1)) (hne : ¬ y = 0) (k : sm_KK p l e R s m args below meth c Q D cy b base w0 nL (pc + 1) (lv) (.int (x - x / y * y) :: r) (w)) : sm_KK p l e R s m args below meth c Q D cy b base w0 nL (pc) (lv) (.int y :: .int x :: r) (w) := by
  intro H locs cells slots ls J
  exact lv_irem C.1 C.2.1 hd hne (k H locs cells slots ls J)

theorem sm_ok_ladd (C : sm_C p s m args c D cy b base nL cc o L xs) {x y : Int64} (hd : decode cc pc = .ok (.ladd, 1)) (k : sm_KK p l e R s m args below meth c Q D cy b base w0 nL (pc + 1) (lv) (.long (x + y) :: r) (w)) : sm_KK p l e R s m args below meth c Q D cy b base w0 nL (pc) (lv) (.long y :: .long x :: r) (w) := by
  intro H locs cells slots ls J
  exact lv_ladd C.1 C.2.1 hd (k H locs cells slots ls J)

theorem sm_ok_lsub (C : sm_C p s m args c D cy b base nL cc o L xs) {x y : Int64} (hd : decode cc pc = .ok (.lsub, 1)) (k : sm_KK p l e R s m args below meth c Q D cy b base w0 nL (pc + 1) (lv) (.long (x - y) :: r) (w)) : sm_KK p l e R s m args below meth c Q D cy b base w0 nL (pc) (lv) (.long y :: .long x :: r) (w) := by
  intro H locs cells slots ls J
  exact lv_lsub C.1 C.2.1 hd (k H locs cells slots ls J)

theorem sm_ok_lmul (C : sm_C p s m args c D cy b base nL cc o L xs) {x y : Int64} (hd : decode cc pc = .ok (.lmul, 1)) (k : sm_KK p l e R s m args below meth c Q D cy b base w0 nL (pc + 1) (lv) (.long (x * y) :: r) (w)) : sm_KK p l e R s m args below meth c Q D cy b base w0 nL (pc) (lv) (.long y :: .long x :: r) (w) := by
  intro H locs cells slots ls J
  exact lv_lmul C.1 C.2.1 hd (k H locs cells slots ls J)

theorem sm_ok_land (C : sm_C p s m args c D cy b base nL cc o L xs) {x y : Int64} (hd : decode cc pc = .ok (.land, 1)) (k : sm_KK p l e R s m args below meth c Q D cy b base w0 nL (pc + 1) (lv) (.long (x &&& y) :: r) (w)) : sm_KK p l e R s m args below meth c Q D cy b base w0 nL (pc) (lv) (.long y :: .long x :: r) (w) := by
  intro H locs cells slots ls J
  exact lv_land C.1 C.2.1 hd (k H locs cells slots ls J)

theorem sm_ok_lor (C : sm_C p s m args c D cy b base nL cc o L xs) {x y : Int64} (hd : decode cc pc = .ok (.lor, 1)) (k : sm_KK p l e R s m args below meth c Q D cy b base w0 nL (pc + 1) (lv) (.long (x ||| y) :: r) (w)) : sm_KK p l e R s m args below meth c Q D cy b base w0 nL (pc) (lv) (.long y :: .long x :: r) (w) := by
  intro H locs cells slots ls J
  exact lv_lor C.1 C.2.1 hd (k H locs cells slots ls J)

theorem sm_ok_lxor (C : sm_C p s m args c D cy b base nL cc o L xs) {x y : Int64} (hd : decode cc pc = .ok (.lxor, 1)) (k : sm_KK p l e R s m args below meth c Q D cy b base w0 nL (pc + 1) (lv) (.long (x ^^^ y) :: r) (w)) : sm_KK p l e R s m args below meth c Q D cy b base w0 nL (pc) (lv) (.long y :: .long x :: r) (w) := by
  intro H locs cells slots ls J
  exact lv_lxor C.1 C.2.1 hd (k H locs cells slots ls J)

theorem sm_ok_lcmp (C : sm_C p s m args c D cy b base nL cc o L xs) {x y : Int64} (hd : decode cc pc = .ok (.lcmp, 1)) (k : sm_KK p l e R s m args below meth c Q D cy b base w0 nL (pc + 1) (lv) (.int (lg_cmp x y) :: r) (w)) : sm_KK p l e R s m args below meth c Q D cy b base w0 nL (pc) (lv) (.long y :: .long x :: r) (w) := by
  intro H locs cells slots ls J
  exact W.lcmp C.1 C.2.1 hd (k H locs cells slots ls J)

theorem sm_ok_lshl (C : sm_C p s m args c D cy b base nL cc o L xs) {x : Int64} {y : Int32} (hd : decode cc pc = .ok (.lshl, 1)) (k : sm_KK p l e R s m args below meth c Q D cy b base w0 nL (pc + 1) (lv) (.long (x <<< (y.toInt64 &&& 63)) :: r) (w)) : sm_KK p l e R s m args below meth c Q D cy b base w0 nL (pc) (lv) (.int y :: .long x :: r) (w) := by
  intro H locs cells slots ls J
  exact lv_lshl C.1 C.2.1 hd rfl (k H locs cells slots ls J)

theorem sm_ok_lushr (C : sm_C p s m args c D cy b base nL cc o L xs) {x : Int64} {y : Int32} (hd : decode cc pc = .ok (.lushr, 1)) (k : sm_KK p l e R s m args below meth c Q D cy b base w0 nL (pc + 1) (lv) (.long (x.toUInt64 >>> (y.toInt64.toUInt64 &&& Int64.toUInt64 63)).toInt64 :: r) (w)) : sm_KK p l e R s m args below meth c Q D cy b base w0 nL (pc) (lv) (.int y :: .long x :: r) (w) := by
  intro H locs cells slots ls J
  exact lv_lushr C.1 C.2.1 hd rfl (k H locs cells slots ls J)

theorem sm_ok_i2l (C : sm_C p s m args c D cy b base nL cc o L xs) {x : Int32} (hd : decode cc pc = .ok (.i2l, 1)) (k : sm_KK p l e R s m args below meth c Q D cy b base w0 nL (pc + 1) (lv) (.long x.toInt64 :: r) (w)) : sm_KK p l e R s m args below meth c Q D cy b base w0 nL (pc) (lv) (.int x :: r) (w) := by
  intro H locs cells slots ls J
  exact lv_i2l C.1 C.2.1 hd rfl (k H locs cells slots ls J)

theorem sm_ok_l2i (C : sm_C p s m args c D cy b base nL cc o L xs) {x : Int64} (hd : decode cc pc = .ok (.l2i, 1)) (k : sm_KK p l e R s m args below meth c Q D cy b base w0 nL (pc + 1) (lv) (.int x.toInt32 :: r) (w)) : sm_KK p l e R s m args below meth c Q D cy b base w0 nL (pc) (lv) (.long x :: r) (w) := by
  intro H locs cells slots ls J
  exact lv_l2i C.1 C.2.1 hd rfl (k H locs cells slots ls J)
end OPS2
