/-! calls -/
section CLS
variable {p : Program} {l : Launch} {e : Env} {R : Room} {s : State} {m : MethodId} {args : Array Value} {below : List Frame} {meth : Method} {c : Code} {Q : State → Prop} {D : va_G} {cy : Nat → ClassId} {b base : Nat} {w0 : sm_W} {nL : Nat}
variable {cc : ByteArray} {o : Nat} {L : Nat} {xs : Nat → Int32} {pc : Nat} {lv lv' : sm_L} {st st' : List Value} {w w' w1 : sm_W}
variable {ini : Bool} {ret : Option FieldType} {bo : Bool} {bp : List Nat} {cb len : Nat} {rc si : sm_I}
variable {H : Heap} {locs : List Loc} {cells slots : Nat} {ls : Array Slot} {d : Nat} {r : Option Value}
/-- behind a call -/
theorem sm_after {st0 rest : List Value} {mc ms : Nat} {a : Array Value} (J : sm_J s D cy b base w0 nL w lv H locs cells slots ls) (h1 : mc = w1.length - w.length) (h2 : ms = sm_sz w1 - sm_sz w) (hm : w.length ≤ w1.length ∧ sm_sz w ≤ sm_sz w1)
    (hr : va_Run p l e R s m args below meth c H locs cells slots mc ms (F0 m pc ls st0) (rest.map (sm_v b base)) (sm_Qc D cy b base r w1 a) (fun q => base ≤ q)) (k : sm_KK p l e R s m args below meth c Q D cy b base w0 nL (pc + 3) (lv) (r.toList ++ rest) (w1)) : W p l e R s m args below meth c H locs cells slots Q (F0 m pc ls st0) := by
  intro T hT X
  obtain ⟨v, u0, t, T1, LL, g1, X1, hL, e1, e2, ⟨hv, hP, hz, hF⟩, go⟩ := hr T hT X
  have hv : v = r.map (sm_v b base) := by injection hv
  subst hv
  obtain ⟨j1, j2, j3, j4, j5⟩ := J
  have hS1 : va_S (fun q => base ≤ q) s.heap T1.heap (locs ++ LL) := by
    refine ⟨?_, ?_, ?_⟩
    · rw [e1]
      have := hF.1
      rw [g1] at this
      exact Nat.le_trans j2.1 this
    · intro q h3 h4
      rw [e1]
      have h5 := hF.2 q (by rw [g1]; exact Nat.lt_of_lt_of_le h3 j2.1) h4
      rw [h5, g1]
      exact j2.2.1 q h3 h4
    · intro q hq
      rcases List.mem_append.mp hq with hq | hq
      · exact j2.2.2 q hq
      · exact hL q hq
  obtain ⟨tf, a1, b1⟩ := k T1.heap (locs ++ LL) (cells + mc) (slots + ms) ls ⟨by rw [e1]; exact hP, hS1, j3, by omega, by omega⟩ T1 rfl X1
  refine ⟨tf, go tf ?_, b1⟩
  have e3 : (r.toList ++ rest).map (sm_v b base) = (r.map (sm_v b base)).toList ++ rest.map (sm_v b base) := by
    rw [List.map_append]
    cases r <;> rfl
  rw [← e3]
  exact a1
theorem sm_pre (C : sm_C p s m args c D cy b base nL cc o L xs) (J : sm_J s D cy b base w0 nL w lv H locs cells slots ls) (hz : H.size = base + w.length) (as : List Value) : ∀ U : State, U.heap = H → s.WarmedH U.vm → sm_Pc D cy b base L xs as w (as.map (sm_v b base)).toArray U := by
  intro U hU hW
  obtain ⟨h1, h2, h3, h4, h5, h6, h7, h8, -⟩ := C
  exact ⟨rfl, by rw [hU]; exact J.1, by rw [hU]; exact hz, sm_K.moved hW h5, sm_X_moved hW h6 (by rw [hU]; exact J.2.1.2.1 b (Nat.lt_of_lt_of_le h7 h8) (Nat.not_le.mpr h7)), h7⟩
/-- what is known of whom a call reaches -/
def sm_Ms (l : Launch) (D : va_G) (cy : Nat → ClassId) (b base L : Nat) (xs : Nat → Int32) (d : Nat) (calls : Nat → List Value → sm_W → sm_O) : Prop :=
  (∀ (y : Nat) (as : List Value) (w : sm_W) (r : Option Value) (w1 : sm_W), calls y as w = some (r, w1) → w.length ≤ w1.length ∧ sm_sz w ≤ sm_sz w1) ∧
  (∀ (y : Nat) (as : List Value) (w : sm_W) (r : Option Value) (w1 : sm_W), calls y as w = some (r, w1) → y ≠ 400 → y ≠ 401 → y < sm_MT.length → (!(Nat.beq (sm_own y) 16)) = true →
    Met l (sm_y y) (sm_wsM y) (sm_rm d (w1.length - w.length) (sm_sz w1 - sm_sz w)) (sm_Pc D cy b base L xs as w) (sm_Qc D cy b base r w1) (w1.length - w.length) (sm_sz w1 - sm_sz w) (fun q => base ≤ q)) ∧
  (∀ (as : List Value) (w : sm_W), calls 400 as w = sm_copy as w) ∧
  (∀ (as : List Value) (w : sm_W) (r : Option Value) (w1 : sm_W), calls 401 as w = some (r, w1) → (∃ a, as = [.ref a]) ∧ r = none ∧ w1 = w)
theorem sm_CB (C : sm_C p s m args c D cy b base nL cc o L xs) {y idx mc ms : Nat} (hy : y < sm_MT.length) (ho : (!(Nat.beq (sm_own y) 16)) = true) (hR : d + 1 ≤ R.frames ∧ 64 * (d + 1) ≤ R.locals) (hl : Cond.methodLink (sm_cn o) idx (sm_y y) ∈ sm_ts) :
    CallB R s args (sm_cn o) idx (sm_y y) (sm_bytes y) (sm_nL y) (sm_ret y) (sm_wsM y) (sm_rm d mc ms) mc ms (sm_np y) := by
  have := sm_nL_le hy
  exact callB_of (sm_np y) C.2.2.2.1 (sm_gi hy) rfl rfl rfl (C.2.2.2.1 _ (sm_inited hy ho)) (C.2.2.2.1 _ hl) (sm_desc hy) ⟨hR.1, by show 8 + (sm_nL y + 11) + 64 * d ≤ _; omega⟩
theorem sm_CN (C : sm_C p s m args c D cy b base nL cc o L xs) {y idx mc ms : Nat} (hy : y < sm_MT.length) (ho : (!(Nat.beq (sm_own y) 16)) = true) (hR : d + 1 ≤ R.frames ∧ 64 * (d + 1) ≤ R.locals) (hl : Cond.methodLinkNest (sm_cn o) idx (sm_y y) "WordGrid" ∈ lw_tbl) :
    va_CN R s args (sm_cn o) idx (sm_y y) "WordGrid" (sm_bytes y) (sm_nL y) (sm_ret y) (sm_wsM y) (sm_rm d mc ms) mc ms (sm_np y) := by
  have := sm_nL_le hy
  exact va_cnB (sm_np y) C.2.2.2.1 (sm_gi hy) rfl rfl rfl (C.2.2.2.2.1.2.1 _ hl rfl) (C.2.2.2.1 _ (sm_inited hy ho)) (sm_desc hy) ⟨hR.1, by show 8 + (sm_nL y + 11) + 64 * d ≤ _; omega⟩
theorem sm_room {pc : Nat} {ls : Array Slot} {st0 : List Value} {rest : List Value} (h : sm_words rest ≤ 8) : 2 * (F0 m pc ls st0).monitorRoom + ((rest.map (sm_v b base)).map fun v => v.category).sum ≤ 8 := lv_room (by rw [sm_words_map]; exact h)
theorem sm_ok_static (C : sm_C p s m args c D cy b base nL cc o L xs) {calls : Nat → List Value → sm_W → sm_O} (M : sm_Ms l D cy b base L xs d calls) (hR : d + 1 ≤ R.frames ∧ 64 * (d + 1) ≤ R.locals) {idx y : Nat} {as rest : List Value} (hd : decode cc pc = .ok (.invokestatic idx, 3)) (hin : sm_LS.any (fun e => Nat.beq e.1 o && Nat.beq e.2.1 idx && Nat.beq e.2.2.1 y) = true) (hy0 : y ≠ 400 ∧ y ≠ 401)
    (hn : as.length = sm_np y) (hw : sm_words rest ≤ 8) (hc : calls y as w = some (r, w1)) (hcap : base + w1.length ≤ s.heap.size + R.cells ∧ sm_sz w1 ≤ sm_sz w0 + R.slots) (k : sm_KK p l e R s m args below meth c Q D cy b base w0 nL (pc + 3) (lv) (r.toList ++ rest) (w1)) : sm_KK p l e R s m args below meth c Q D cy b base w0 nL (pc) (lv) (as.reverse ++ rest) (w) := by
  intro H locs cells slots ls J
  obtain ⟨q, hq, h1⟩ := List.any_eq_true.mp hin
  simp only [Bool.and_eq_true] at h1
  have e1 := Nat.eq_of_beq_eq_true h1.1.1
  have e2 := Nat.eq_of_beq_eq_true h1.1.2
  have e3 := Nat.eq_of_beq_eq_true h1.2
  have h2 := List.all_eq_true.mp sm_okLS_ok q hq
  obtain ⟨q1, q2, q3, q4, q5⟩ := q
  dsimp only at e1 e2 e3
  subst e1; subst e2; subst e3
  unfold sm_okLS at h2
  simp only [Bool.and_eq_true] at h2
  obtain ⟨⟨⟨hlk, hst⟩, hy⟩, ho⟩ := h2
  have hy := Nat.le_of_ble_eq_true hy
  have hm := M.1 _ _ _ _ _ hc
  have hMet := M.2.1 _ _ _ _ _ hc hy0.1 hy0.2 hy ho
  refine J.size C.2.2.2.2.2.2.2.1 fun hz => ?_
  have hpre := sm_pre C J hz as
  have hj := J.2.2.2
  have hstack : (as.reverse ++ rest).map (sm_v b base) = (as.map (sm_v b base)).reverse ++ rest.map (sm_v b base) := by rw [List.map_append, List.map_reverse]
  rw [hstack]
  unfold sm_link at hlk
  cases hnb : Nat.beq q4 0 with
  | true =>
    rw [hnb] at hlk
    refine sm_after J rfl rfl hm (va_runS (nL := nL) (own := sm_cn q1) (Ts := sm_ts) ⟨C.1, C.2.1, C.2.2.2.2.2.2.2.2, C.2.2.1, C.2.2.2.1⟩ hMet ⟨sm_CB C hy ho hR (sm_good (sm_at_mem hlk) rfl), C.2.2.2.1 _ (sm_static hy hst)⟩ ⟨sm_blind D cy b base L xs as w, hpre⟩ rfl (by rw [List.length_map]; exact hn) J.2.2.1.1 rfl (sm_room hw) hd ⟨by omega, by omega⟩) k
  | false =>
    rw [hnb] at hlk
    refine sm_after J rfl rfl hm (va_runSN (nL := nL) (own := sm_cn q1) (Ts := sm_ts) ⟨C.1, C.2.1, C.2.2.2.2.2.2.2.2, C.2.2.1, C.2.2.2.1⟩ hMet ⟨sm_CN C hy ho hR (sm_at_mem hlk), C.2.2.2.1 _ (sm_static hy hst), trivial⟩ ⟨sm_blind D cy b base L xs as w, hpre⟩ rfl (by rw [List.length_map]; exact hn) J.2.2.1.1 rfl (sm_room hw) hd ⟨by omega, by omega⟩) k
theorem sm_stackR (a : Nat) (as rest : List Value) : ((Value.ref a :: as).reverse ++ rest).map (sm_v b base) = (as.map (sm_v b base)).reverse ++ Value.ref (base + a) :: rest.map (sm_v b base) := by
  rw [List.reverse_cons, List.append_assoc, List.map_append, List.map_reverse]
  rfl
theorem sm_ok_init (C : sm_C p s m args c D cy b base nL cc o L xs) {calls : Nat → List Value → sm_W → sm_O} (M : sm_Ms l D cy b base L xs d calls) (hR : d + 1 ≤ R.frames ∧ 64 * (d + 1) ≤ R.locals) {idx y a : Nat} {as rest : List Value} (hd : decode cc pc = .ok (.invokespecial idx, 3)) (hin : sm_LI.any (fun e => Nat.beq e.1 o && Nat.beq e.2.1 idx && Nat.beq e.2.2.1 y) = true) (hy0 : y ≠ 400 ∧ y ≠ 401)
    (hn : as.length = sm_np y) (hw : sm_words rest ≤ 8) (hc : calls y (.ref a :: as) w = some (r, w1)) (hcap : base + w1.length ≤ s.heap.size + R.cells ∧ sm_sz w1 ≤ sm_sz w0 + R.slots) (k : sm_KK p l e R s m args below meth c Q D cy b base w0 nL (pc + 3) (lv) (r.toList ++ rest) (w1)) : sm_KK p l e R s m args below meth c Q D cy b base w0 nL (pc) (lv) ((Value.ref a :: as).reverse ++ rest) (w) := by
  intro H locs cells slots ls J
  obtain ⟨q, hq, h1⟩ := List.any_eq_true.mp hin
  simp only [Bool.and_eq_true] at h1
  have e1 := Nat.eq_of_beq_eq_true h1.1.1
  have e2 := Nat.eq_of_beq_eq_true h1.1.2
  have e3 := Nat.eq_of_beq_eq_true h1.2
  have h2 := List.all_eq_true.mp sm_okLI_ok q hq
  obtain ⟨q1, q2, q3, q4, q5⟩ := q
  dsimp only at e1 e2 e3
  subst e1; subst e2; subst e3
  unfold sm_okLI at h2
  simp only [Bool.and_eq_true, decide_eq_true_eq] at h2
  obtain ⟨⟨⟨⟨⟨hlk, hst⟩, hy⟩, hnm⟩, hrt⟩, ho⟩ := h2
  have hy := Nat.le_of_ble_eq_true hy
  have hm := M.1 _ _ _ _ _ hc
  have hMet := M.2.1 _ _ _ _ _ hc hy0.1 hy0.2 hy ho
  refine J.size C.2.2.2.2.2.2.2.1 fun hz => ?_
  have hpre := sm_pre C J hz (.ref a :: as)
  have hj := J.2.2.2
  rw [sm_stackR]
  unfold sm_link at hlk
  cases hnb : Nat.beq q4 0 with
  | true =>
    rw [hnb] at hlk
    have hcb := sm_CB (mc := w1.length - w.length) (ms := sm_sz w1 - sm_sz w) C hy ho hR (sm_good (sm_at_mem hlk) rfl)
    rw [hrt] at hcb
    refine sm_after J rfl rfl hm (va_runI (nL := nL) (own := sm_cn q1) (Ts := sm_ts) ⟨C.1, C.2.1, C.2.2.2.2.2.2.2.2, C.2.2.1, C.2.2.2.1⟩ hMet ⟨hcb, hnm, C.2.2.2.1 _ (sm_inst hy hst)⟩ ⟨sm_blind D cy b base L xs (.ref a :: as) w, hpre⟩ rfl (by rw [List.length_map]; exact hn) J.2.2.1.1 rfl (sm_room hw) hd ⟨by omega, by omega⟩) k
  | false =>
    rw [hnb] at hlk
    have hcb := sm_CN (mc := w1.length - w.length) (ms := sm_sz w1 - sm_sz w) C hy ho hR (sm_at_mem hlk)
    rw [hrt] at hcb
    refine sm_after J rfl rfl hm (va_runIN (nL := nL) (own := sm_cn q1) (Ts := sm_ts) ⟨C.1, C.2.1, C.2.2.2.2.2.2.2.2, C.2.2.1, C.2.2.2.1⟩ hMet ⟨hcb, hnm, C.2.2.2.1 _ (sm_inst hy hst)⟩ ⟨sm_blind D cy b base L xs (.ref a :: as) w, hpre⟩ rfl (by rw [List.length_map]; exact hn) J.2.2.1.1 rfl (sm_room hw) hd ⟨by omega, by omega⟩) k
theorem sm_ok_super (C : sm_C p s m args c D cy b base nL cc o L xs) {calls : Nat → List Value → sm_W → sm_O} (M : sm_Ms l D cy b base L xs d calls) (hR : d + 1 ≤ R.frames ∧ 64 * (d + 1) ≤ R.locals) {idx y a ci : Nat} {fs as rest : List Value} (hd : decode cc pc = .ok (.invokespecial idx, 3)) (hin : sm_LP.any (fun e => Nat.beq e.1 o && Nat.beq e.2.1 idx && Nat.beq e.2.2.1 y) = true) (hy0 : y ≠ 400 ∧ y ≠ 401)
    (ha : w[a]? = some (.inr (ci, fs))) (hn : as.length = sm_np y) (hw : sm_words rest ≤ 8) (hc : calls y (.ref a :: as) w = some (r, w1)) (hcap : base + w1.length ≤ s.heap.size + R.cells ∧ sm_sz w1 ≤ sm_sz w0 + R.slots) (k : sm_KK p l e R s m args below meth c Q D cy b base w0 nL (pc + 3) (lv) (r.toList ++ rest) (w1)) : sm_KK p l e R s m args below meth c Q D cy b base w0 nL (pc) (lv) ((Value.ref a :: as).reverse ++ rest) (w) := by
  intro H locs cells slots ls J
  obtain ⟨q, hq, h1⟩ := List.any_eq_true.mp hin
  simp only [Bool.and_eq_true] at h1
  have e1 := Nat.eq_of_beq_eq_true h1.1.1
  have e2 := Nat.eq_of_beq_eq_true h1.1.2
  have e3 := Nat.eq_of_beq_eq_true h1.2
  have h2 := List.all_eq_true.mp sm_okLP_ok q hq
  obtain ⟨q1, q2, q3, q4, q5, q6⟩ := q
  dsimp only at e1 e2 e3
  subst e1; subst e2; subst e3
  unfold sm_okLP at h2
  simp only [Bool.and_eq_true, decide_eq_true_eq] at h2
  obtain ⟨⟨⟨⟨⟨⟨hlk, hsm⟩, hsu⟩, hst⟩, hy⟩, hnm⟩, ho⟩ := h2
  have hy := Nat.le_of_ble_eq_true hy
  have hm := M.1 _ _ _ _ _ hc
  have hMet := M.2.1 _ _ _ _ _ hc hy0.1 hy0.2 hy ho
  refine J.size C.2.2.2.2.2.2.2.1 fun hz => ?_
  have hpre := sm_pre C J hz (.ref a :: as)
  have hj := J.2.2.2
  have hci := sm_ci J.1 ha
  have hKn := C.2.2.2.2.1.1.1 ci _ (sm_cl_get hci)
  have hcb := sm_CB (mc := w1.length - w.length) (ms := sm_sz w1 - sm_sz w) C hy ho hR (sm_good (sm_at_mem hlk) rfl)
  obtain ⟨c1, c2, c3, c4, c5, c6, c7, c8, c9, c10, c11⟩ := hcb
  rw [sm_stackR]
  refine sm_after J rfl rfl hm (va_runSU (nL := nL) (own := sm_cn q1) (Ts := sm_ts) (C := sm_cn ci) hKn.2 ⟨C.1, C.2.1, C.2.2.2.2.2.2.2.2, C.2.2.1, C.2.2.2.1⟩ hMet ⟨⟨c1, c2, c3, c4, c5, c6⟩, c11, C.2.2.2.1 _ (sm_good (sm_at_mem hsm) rfl), C.2.2.2.1 _ (sm_good (sm_at_mem hsu) rfl), C.2.2.2.1 _ (sm_inst hy hst), c8, c7, hnm, c10⟩ ⟨sm_blind D cy b base L xs (.ref a :: as) w, va_recv C.2.2.2.2.1.1 J.1 (sm_cl_get hci) (sm_ws_get ha), hpre⟩ rfl (by rw [List.length_map]; exact hn) J.2.2.1.1 rfl (sm_room hw) hd ⟨by omega, by omega⟩) k
theorem sm_ok_virt (C : sm_C p s m args c D cy b base nL cc o L xs) {calls : Nat → List Value → sm_W → sm_O} (M : sm_Ms l D cy b base L xs d calls) (hR : d + 1 ≤ R.frames ∧ 64 * (d + 1) ≤ R.locals) {idx y a ci : Nat} {fs as rest : List Value} (hd : decode cc pc = .ok (.invokevirtual idx, 3)) (hin : sm_LV.any (fun e => Nat.beq e.1 o && Nat.beq e.2.1 idx && Nat.beq e.2.2.1 ci && Nat.beq e.2.2.2.1 y) = true) (hy0 : y ≠ 400 ∧ y ≠ 401)
    (ha : w[a]? = some (.inr (ci, fs))) (hn : as.length = sm_np y) (hw : sm_words rest ≤ 8) (hc : calls y (.ref a :: as) w = some (r, w1)) (hcap : base + w1.length ≤ s.heap.size + R.cells ∧ sm_sz w1 ≤ sm_sz w0 + R.slots) (k : sm_KK p l e R s m args below meth c Q D cy b base w0 nL (pc + 3) (lv) (r.toList ++ rest) (w1)) : sm_KK p l e R s m args below meth c Q D cy b base w0 nL (pc) (lv) ((Value.ref a :: as).reverse ++ rest) (w) := by
  intro H locs cells slots ls J
  obtain ⟨q, hq, h1⟩ := List.any_eq_true.mp hin
  simp only [Bool.and_eq_true] at h1
  have e1 := Nat.eq_of_beq_eq_true h1.1.1.1
  have e2 := Nat.eq_of_beq_eq_true h1.1.1.2
  have e3 := Nat.eq_of_beq_eq_true h1.1.2
  have e4 := Nat.eq_of_beq_eq_true h1.2
  have h2 := List.all_eq_true.mp sm_okLV_ok q hq
  obtain ⟨q1, q2, q3, q4, q5, q6⟩ := q
  dsimp only at e1 e2 e3 e4
  subst e1; subst e2; subst e3; subst e4
  unfold sm_okLV at h2
  simp only [Bool.and_eq_true, decide_eq_true_eq] at h2
  obtain ⟨⟨⟨⟨⟨⟨hlk, hse⟩, hcl⟩, hst⟩, hy⟩, hc12⟩, ho⟩ := h2
  have hy := Nat.le_of_ble_eq_true hy
  have hm := M.1 _ _ _ _ _ hc
  have hMet := M.2.1 _ _ _ _ _ hc hy0.1 hy0.2 hy ho
  refine J.size C.2.2.2.2.2.2.2.1 fun hz => ?_
  have hpre := sm_pre C J hz (.ref a :: as)
  have hj := J.2.2.2
  have hci := sm_ci J.1 ha
  rw [sm_stackR]
  refine sm_after J rfl rfl hm (va_runV (nL := nL) (own := sm_cn q1) (Ts := sm_ts) (C := sm_cn q3) ⟨C.1, C.2.1, C.2.2.2.2.2.2.2.2, C.2.2.1, C.2.2.2.1⟩ hMet ⟨sm_CB C hy ho hR (sm_good (sm_at_mem hlk) rfl), C.2.2.2.1 _ (sm_inst hy hst), C.2.2.2.1 _ (sm_good (sm_at_mem hse) rfl)⟩ ⟨sm_blind D cy b base L xs (.ref a :: as) w, va_recv C.2.2.2.2.1.1 J.1 (sm_cl_get hci) (sm_ws_get ha), hpre⟩ rfl (by rw [List.length_map]; exact hn) J.2.2.1.1 rfl (sm_room hw) hd ⟨by omega, by omega⟩) k
theorem sm_ok_virtU (C : sm_C p s m args c D cy b base nL cc o L xs) {calls : Nat → List Value → sm_W → sm_O} (M : sm_Ms l D cy b base L xs d calls) (hR : d + 1 ≤ R.frames ∧ 64 * (d + 1) ≤ R.locals) {idx y a ci : Nat} {fs as rest : List Value} (hd : decode cc pc = .ok (.invokevirtual idx, 3)) (hin : sm_LU.any (fun e => Nat.beq e.1 o && Nat.beq e.2.1 idx && Nat.beq e.2.2.1 ci && Nat.beq e.2.2.2.1 y) = true) (hy0 : y ≠ 400 ∧ y ≠ 401)
    (ha : w[a]? = some (.inr (ci, fs))) (hn : as.length = sm_np y) (hw : sm_words rest ≤ 8) (hc : calls y (.ref a :: as) w = some (r, w1)) (hcap : base + w1.length ≤ s.heap.size + R.cells ∧ sm_sz w1 ≤ sm_sz w0 + R.slots) (k : sm_KK p l e R s m args below meth c Q D cy b base w0 nL (pc + 3) (lv) (r.toList ++ rest) (w1)) : sm_KK p l e R s m args below meth c Q D cy b base w0 nL (pc) (lv) ((Value.ref a :: as).reverse ++ rest) (w) := by
  intro H locs cells slots ls J
  obtain ⟨q, hq, h1⟩ := List.any_eq_true.mp hin
  simp only [Bool.and_eq_true] at h1
  have e1 := Nat.eq_of_beq_eq_true h1.1.1.1
  have e2 := Nat.eq_of_beq_eq_true h1.1.1.2
  have e3 := Nat.eq_of_beq_eq_true h1.1.2
  have e4 := Nat.eq_of_beq_eq_true h1.2
  have h2 := List.all_eq_true.mp sm_okLU_ok q hq
  obtain ⟨q1, q2, q3, q4, x, owner, q5, q6, q7, dk, q8⟩ := q
  dsimp only at e1 e2 e3 e4
  subst e1; subst e2; subst e3; subst e4
  unfold sm_okLU at h2
  simp only [Bool.and_eq_true, decide_eq_true_eq] at h2
  obtain ⟨⟨⟨⟨⟨⟨⟨⟨⟨hlk, hsm⟩, hse⟩, hst⟩, hy⟩, hc12⟩, ho⟩, hdk⟩, how⟩, hpd⟩ := h2
  have hy := Nat.le_of_ble_eq_true hy
  have hm := M.1 _ _ _ _ _ hc
  have hMet := M.2.1 _ _ _ _ _ hc hy0.1 hy0.2 hy ho
  have hnl := sm_nL_le hy
  have hdecl : va_Decl s ⟨owner, x.name, x.desc⟩ := by
    cases hdb : Nat.beq dk 0 with
    | true =>
      rw [hdb] at hdk
      simp only [cond_true, Bool.and_eq_true, decide_eq_true_eq] at hdk
      obtain ⟨⟨d1, d2⟩, d3⟩ := hdk
      have d3 := Nat.le_of_ble_eq_true d3
      rw [← d1]
      exact va_Decl.of (C.2.2.2.1 _ (sm_inst d3 d2)) (C.2.2.2.1 _ (sm_code_mem d3))
    | false =>
      rw [hdb] at hdk
      exact va_Decl.abs (C.2.2.2.2.1.2.1 _ (sm_at_mem hdk) rfl)
  refine J.size C.2.2.2.2.2.2.2.1 fun hz => ?_
  have hpre := sm_pre C J hz (.ref a :: as)
  have hj := J.2.2.2
  have hci := sm_ci J.1 ha
  rw [sm_stackR]
  refine sm_after J rfl rfl hm (va_runU (nL := nL) (own := sm_cn q1) (Ts := sm_ts) (C := sm_cn q3) (owner := owner) (x := x) (n := sm_np q4) ⟨C.1, C.2.1, C.2.2.2.2.2.2.2.2, C.2.2.1, C.2.2.2.1⟩ hMet ⟨⟨rfl, rfl, hR.1, by show 8 + (sm_nL q4 + 11) + 64 * d ≤ _; omega, pay_in C.2.2.2.1 (sm_gi hy), List.mem_cons_self⟩, C.2.2.2.1 _ (sm_code_mem hy), C.2.2.2.1 _ (sm_inited hy ho), how, fun sig h => by rw [h] at hpd; exact (Option.some.inj hpd).symm, C.2.2.2.1 _ (sm_good (sm_at_mem hlk) rfl), C.2.2.2.1 _ (sm_good (sm_at_mem hsm) rfl), hdecl, C.2.2.2.1 _ (sm_good (sm_at_mem hse) rfl), C.2.2.2.1 _ (sm_inst hy hst)⟩ ⟨sm_blind D cy b base L xs (.ref a :: as) w, va_recv C.2.2.2.2.1.1 J.1 (sm_cl_get hci) (sm_ws_get ha), hpre⟩ rfl (by rw [List.length_map]; exact hn) J.2.2.1.1 rfl (sm_room hw) hd ⟨by omega, by omega⟩) k
theorem sm_ok_obj (C : sm_C p s m args c D cy b base nL cc o L xs) (hR : 1 ≤ R.frames ∧ 64 ≤ R.locals) {idx a : Nat} {rest : List Value} (hd : decode cc pc = .ok (.invokespecial idx, 3)) (hin : sm_LO.any (fun e => Nat.beq e.1 o && Nat.beq e.2.1 idx) = true) (hw : sm_words rest ≤ 8) (k : sm_KK p l e R s m args below meth c Q D cy b base w0 nL (pc + 3) (lv) (rest) (w)) : sm_KK p l e R s m args below meth c Q D cy b base w0 nL (pc) (lv) (.ref a :: rest) (w) := by
  intro H locs cells slots ls J
  obtain ⟨q, hq, h1⟩ := List.any_eq_true.mp hin
  simp only [Bool.and_eq_true] at h1
  have e1 := Nat.eq_of_beq_eq_true h1.1
  have e2 := Nat.eq_of_beq_eq_true h1.2
  have h2 := List.all_eq_true.mp sm_okLO_ok q hq
  obtain ⟨q1, q2, q3⟩ := q
  dsimp only at e1 e2
  subst e1; subst e2
  unfold sm_okLO at h2
  have h3 : 2 * (F0 m pc ls ((Value.ref a :: rest).map (sm_v b base))).monitorRoom + ((rest.map (sm_v b base)).map fun v => v.category).sum ≤ 8 := sm_room hw
  exact W.objInit C.1 C.2.1 C.2.2.1 (C.2.2.2.1 _ (sm_good (sm_at_mem h2) rfl)) (C.2.2.2.1 _ (sm_good (sm_at_mem sm_okoi.1) rfl)) (C.2.2.2.1 _ (sm_good (sm_at_mem sm_okoi.2) rfl)) rfl (by rw [C.2.2.2.2.2.2.2.2]; exact J.2.2.1.1) rfl hd hR.1 (by omega) (k H locs cells slots ls J)
theorem sm_ok_copy (C : sm_C p s m args c D cy b base nL cc o L xs) (hR : 1 ≤ R.frames ∧ 64 ≤ R.locals) {idx : Nat} {as rest : List Value} (hd : decode cc pc = .ok (.invokestatic idx, 3)) (hin : sm_LA.any (fun e => Nat.beq e.1 o && Nat.beq e.2.1 idx) = true) (hw : sm_words rest ≤ 8) (hc : sm_copy as w = some (r, w1)) (k : sm_KK p l e R s m args below meth c Q D cy b base w0 nL (pc + 3) (lv) (r.toList ++ rest) (w1)) : sm_KK p l e R s m args below meth c Q D cy b base w0 nL (pc) (lv) (as.reverse ++ rest) (w) := by
  obtain ⟨q, hq, h1⟩ := List.any_eq_true.mp hin
  simp only [Bool.and_eq_true] at h1
  have e1 := Nat.eq_of_beq_eq_true h1.1
  have e2 := Nat.eq_of_beq_eq_true h1.2
  have h2 := List.all_eq_true.mp sm_okLA_ok q hq
  obtain ⟨q1, q2, q3⟩ := q
  dsimp only at e1 e2
  subst e1; subst e2
  unfold sm_okLA at h2
  unfold sm_copy at hc
  split at hc
  · split at hc
    · rename_i ha hb
      split at hc
      · cases hc
      · rename_i hif
        cases hc
        intro H locs cells slots ls J
        simp only [not_or] at hif
        obtain ⟨i1, i2, i3, i4, i5⟩ := hif
        have hnat : nativeFrameWords "java/lang/System" "arraycopy" 5 = 7 := by decide
        exact va_copyi C.1 C.2.1 (by rw [C.2.2.2.2.2.2.2.2]; exact J.2.2.1.1.symm) C.2.2.1 (C.2.2.2.1 _ (sm_good (sm_at_mem h2) rfl)) (C.2.2.2.1 _ (sm_good (sm_at_mem sm_okac.1) rfl)) (C.2.2.2.1 _ (sm_good (sm_at_mem sm_okac.2.1) rfl)) (C.2.2.2.1 _ (sm_good (sm_at_mem sm_okac.2.2) rfl))
          C.2.2.2.2.1.1 J.1 (sm_ws_D cy b base w) J.2.1 _ _ 0 0 (ty := .int) (sm_ws_get ha) (sm_ws_get hb) rfl rfl rfl i1 i2 i3 (by omega) (by omega) (fun _ _ => rfl) hR.1 (by rw [sm_words_map, hnat]; have h9 : sm_words ([].append rest) = sm_words rest := rfl; omega) hd (fun H1 locs1 hP _ hS => k H1 locs1 cells slots ls (J.store hb rfl hP hS))
    · cases hc
  · cases hc
end CLS
