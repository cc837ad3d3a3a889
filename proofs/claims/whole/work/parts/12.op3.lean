/-! rows, new objects, kinds -/
section OPS4
variable {p : Program} {l : Launch} {e : Env} {R : Room} {s : State} {m : MethodId} {args : Array Value} {below : List Frame} {meth : Method} {c : Code} {Q : State → Prop} {D : va_G} {cy : Nat → ClassId} {b base : Nat} {w0 : sm_W} {nL : Nat}
variable {cc : ByteArray} {o : Nat} {L : Nat} {xs : Nat → Int32} {pc : Nat} {lv : sm_L} {r : List Value} {w : sm_W}
variable {ini : Bool} {ret : Option FieldType} {bo : Bool} {bp : List Nat} {cb len : Nat} {rc : sm_I}
theorem sm_ok_iaload (C : sm_C p s m args c D cy b base nL cc o L xs) {a n : Nat} {f : Nat → Int32} {i : Int32} (hd : decode cc pc = .ok (.iaload, 1)) (ha : w[a]? = some (.inl (0, n, .inl f))) (hi : ¬ (i < 0 ∨ n ≤ i.toNatClampNeg)) (k : sm_KK p l e R s m args below meth c Q D cy b base w0 nL (pc + 1) (lv) (.int (f i.toNatClampNeg) :: r) (w)) : sm_KK p l e R s m args below meth c Q D cy b base w0 nL (pc) (lv) (.int i :: .ref a :: r) (w) := by
  intro H locs cells slots ls J
  exact va_iald C.1 C.2.1 C.2.2.2.2.1.1 J.1 a 0 (sm_ws_get ha) rfl hi hd (k H locs cells slots ls J)
theorem sm_ok_sload (C : sm_C p s m args c D cy b base nL cc o L xs) {a : Nat} {i : Int32} (hd : decode cc pc = .ok (.iaload, 1)) (hi : ¬ (i < 0 ∨ L ≤ i.toNatClampNeg)) (k : sm_KK p l e R s m args below meth c Q D cy b base w0 nL (pc + 1) (lv) (.int (xs i.toNatClampNeg) :: r) (w)) : sm_KK p l e R s m args below meth c Q D cy b base w0 nL (pc) (lv) (.int i :: .retAddr a :: r) (w) := by
  intro H locs cells slots ls J
  obtain ⟨h1, h2, h3, h4, h5, h6, h7, h8, -⟩ := C
  exact va_sld h1 h2 h6 (Nat.lt_of_lt_of_le h7 h8) (Nat.not_le.mpr h7) J.2.1 hi hd (k H locs cells slots ls J)
theorem sm_ok_slen (C : sm_C p s m args c D cy b base nL cc o L xs) {a : Nat} (hd : decode cc pc = .ok (.arraylength, 1)) (k : sm_KK p l e R s m args below meth c Q D cy b base w0 nL (pc + 1) (lv) (.int (Int32.ofNat L) :: r) (w)) : sm_KK p l e R s m args below meth c Q D cy b base w0 nL (pc) (lv) (.retAddr a :: r) (w) := by
  intro H locs cells slots ls J
  obtain ⟨h1, h2, h3, h4, h5, h6, h7, h8, -⟩ := C
  exact va_slen h1 h2 h6 (Nat.lt_of_lt_of_le h7 h8) (Nat.not_le.mpr h7) J.2.1 hd (k H locs cells slots ls J)
theorem sm_ok_alen (C : sm_C p s m args c D cy b base nL cc o L xs) {a n : Nat} {f : Nat → Int32} (hd : decode cc pc = .ok (.arraylength, 1)) (ha : w[a]? = some (.inl (0, n, .inl f))) (k : sm_KK p l e R s m args below meth c Q D cy b base w0 nL (pc + 1) (lv) (.int (Int32.ofNat n) :: r) (w)) : sm_KK p l e R s m args below meth c Q D cy b base w0 nL (pc) (lv) (.ref a :: r) (w) := by
  intro H locs cells slots ls J
  exact va_alen C.1 C.2.1 C.2.2.2.2.1.1 J.1 a 0 (sm_ws_get ha) (ty := .int) rfl rfl hd (k H locs cells slots ls J)
theorem sm_ok_baload (C : sm_C p s m args c D cy b base nL cc o L xs) {a n : Nat} {f : Nat → Int32} {i : Int32} (hd : decode cc pc = .ok (.baload, 1)) (ha : w[a]? = some (.inl (2, n, .inl f))) (hi : ¬ (i < 0 ∨ n ≤ i.toNatClampNeg)) (k : sm_KK p l e R s m args below meth c Q D cy b base w0 nL (pc + 1) (lv) (.int (f i.toNatClampNeg) :: r) (w)) : sm_KK p l e R s m args below meth c Q D cy b base w0 nL (pc) (lv) (.int i :: .ref a :: r) (w) := by
  intro H locs cells slots ls J
  exact va_zald C.1 C.2.1 C.2.2.2.2.1.1 J.1 a 2 (sm_ws_get ha) rfl hi hd (k H locs cells slots ls J)
theorem sm_ok_laload (C : sm_C p s m args c D cy b base nL cc o L xs) {a n : Nat} {f : Nat → Int64} {i : Int32} (hd : decode cc pc = .ok (.laload, 1)) (ha : w[a]? = some (.inl (1, n, .inr (.inl f)))) (hi : ¬ (i < 0 ∨ n ≤ i.toNatClampNeg)) (k : sm_KK p l e R s m args below meth c Q D cy b base w0 nL (pc + 1) (lv) (.long (f i.toNatClampNeg) :: r) (w)) : sm_KK p l e R s m args below meth c Q D cy b base w0 nL (pc) (lv) (.int i :: .ref a :: r) (w) := by
  intro H locs cells slots ls J
  exact va_lald C.1 C.2.1 C.2.2.2.2.1.1 J.1 a 1 (sm_ws_get ha) rfl hi hd (k H locs cells slots ls J)
theorem sm_rf (q : Option Nat) : va_rf (q.map (fun k => base + k)) = sm_v b base (va_rf q) := by cases q <;> rfl
theorem sm_ok_aaload (C : sm_C p s m args c D cy b base nL cc o L xs) {a n t : Nat} {f : Nat → Option Nat} {i : Int32} (ht : t = 3 ∨ t = 4) (hd : decode cc pc = .ok (.aaload, 1)) (ha : w[a]? = some (.inl (t, n, .inr (.inr (.inr (.inr f)))))) (hi : ¬ (i < 0 ∨ n ≤ i.toNatClampNeg)) (k : sm_KK p l e R s m args below meth c Q D cy b base w0 nL (pc + 1) (lv) (va_rf (f i.toNatClampNeg) :: r) (w)) : sm_KK p l e R s m args below meth c Q D cy b base w0 nL (pc) (lv) (.int i :: .ref a :: r) (w) := by
  intro H locs cells slots ls J
  have hk := k H locs cells slots ls J
  rw [List.map_cons, ← sm_rf] at hk
  rcases ht with rfl | rfl
  · exact va_aldq C.1 C.2.1 C.2.2.2.2.1.1 J.1 a 3 (sm_ws_get ha) rfl hi hd hk
  · exact va_aldq C.1 C.2.1 C.2.2.2.2.1.1 J.1 a 4 (sm_ws_get ha) rfl hi hd hk
theorem sm_ok_iastore (C : sm_C p s m args c D cy b base nL cc o L xs) {a n : Nat} {f : Nat → Int32} {i x : Int32} (hd : decode cc pc = .ok (.iastore, 1)) (ha : w[a]? = some (.inl (0, n, .inl f))) (hi : ¬ (i < 0 ∨ n ≤ i.toNatClampNeg)) (k : sm_KK p l e R s m args below meth c Q D cy b base w0 nL (pc + 1) (lv) (r) (w.set a (.inl (0, n, .inl (upd f i.toNatClampNeg x))))) : sm_KK p l e R s m args below meth c Q D cy b base w0 nL (pc) (lv) (.int x :: .int i :: .ref a :: r) (w) := by
  intro H locs cells slots ls J
  exact va_iast C.1 C.2.1 C.2.2.2.2.1.1 J.1 (sm_ws_D cy b base w) J.2.1 a 0 (sm_ws_get ha) rfl hi hd (fun H1 locs1 hP _ hS => k H1 locs1 cells slots ls (J.store ha rfl hP hS))
theorem sm_nar {x : Int32} (h : x = 0 ∨ x = 1) : vp_nar .boolean x = x := by rcases h with rfl | rfl <;> rfl
theorem sm_ok_bastore (C : sm_C p s m args c D cy b base nL cc o L xs) {a n : Nat} {f : Nat → Int32} {i x : Int32} (hd : decode cc pc = .ok (.bastore, 1)) (ha : w[a]? = some (.inl (2, n, .inl f))) (hi : ¬ (i < 0 ∨ n ≤ i.toNatClampNeg)) (hx : x = 0 ∨ x = 1) (k : sm_KK p l e R s m args below meth c Q D cy b base w0 nL (pc + 1) (lv) (r) (w.set a (.inl (2, n, .inl (upd f i.toNatClampNeg x))))) : sm_KK p l e R s m args below meth c Q D cy b base w0 nL (pc) (lv) (.int x :: .int i :: .ref a :: r) (w) := by
  intro H locs cells slots ls J
  refine va_zast C.1 C.2.1 C.2.2.2.2.1.1 J.1 (sm_ws_D cy b base w) J.2.1 a 2 (sm_ws_get ha) rfl hi hd (fun H1 locs1 hP _ hS => ?_)
  rw [sm_nar hx] at hP
  exact k H1 locs1 cells slots ls (J.store ha rfl hP hS)
theorem sm_ok_lastore (C : sm_C p s m args c D cy b base nL cc o L xs) {a n : Nat} {f : Nat → Int64} {i : Int32} {x : Int64} (hd : decode cc pc = .ok (.lastore, 1)) (ha : w[a]? = some (.inl (1, n, .inr (.inl f)))) (hi : ¬ (i < 0 ∨ n ≤ i.toNatClampNeg)) (k : sm_KK p l e R s m args below meth c Q D cy b base w0 nL (pc + 1) (lv) (r) (w.set a (.inl (1, n, .inr (.inl (vp_updL f i.toNatClampNeg x)))))) : sm_KK p l e R s m args below meth c Q D cy b base w0 nL (pc) (lv) (.long x :: .int i :: .ref a :: r) (w) := by
  intro H locs cells slots ls J
  exact va_last C.1 C.2.1 C.2.2.2.2.1.1 J.1 (sm_ws_D cy b base w) J.2.1 a 1 (sm_ws_get ha) rfl hi hd (fun H1 locs1 hP _ hS => k H1 locs1 cells slots ls (J.store ha rfl hP hS))
theorem sm_upm (f : Nat → Option Nat) (j : Nat) (q : Option Nat) : va_up (fun i => (f i).map (fun k => base + k)) j (q.map (fun k => base + k)) = fun i => (va_up f j q i).map (fun k => base + k) := by
  funext i
  unfold va_up
  split <;> rfl
theorem sm_cast4 : ∀ ci, 7 ≤ ci → ci ≤ 11 → Cond.castable (sm_cn ci) "WordGrid$WordList" ∈ lw_tbl := by
  intro ci h1 h2
  rcases (show ci = 7 ∨ ci = 8 ∨ ci = 9 ∨ ci = 10 ∨ ci = 11 by omega) with rfl | rfl | rfl | rfl | rfl
  · exact List.mem_of_getElem? (i := 1534) (by decide +kernel)
  · exact List.mem_of_getElem? (i := 1535) (by decide +kernel)
  · exact List.mem_of_getElem? (i := 1531) (by decide +kernel)
  · exact List.mem_of_getElem? (i := 1533) (by decide +kernel)
  · exact List.mem_of_getElem? (i := 1532) (by decide +kernel)
theorem sm_cast7 : ∀ ci, 7 ≤ ci → ci ≤ 9 → Cond.castable (sm_cn ci) "WordGrid$Plain" ∈ lw_tbl := by
  intro ci h1 h2
  rcases (show ci = 7 ∨ ci = 8 ∨ ci = 9 by omega) with rfl | rfl | rfl
  · exact List.mem_of_getElem? (i := 1529) (by decide +kernel)
  · exact List.mem_of_getElem? (i := 1530) (by decide +kernel)
  · exact List.mem_of_getElem? (i := 1528) (by decide +kernel)
theorem sm_sub12 {ci : Nat} (h : sm_sub ci 12 = true) : ci = 12 ∨ (7 ≤ ci ∧ ci ≤ 11) := by
  unfold sm_sub at h
  simp only [Bool.or_eq_true, Bool.and_eq_true] at h
  rcases h with ((h | h) | h) | h
  · exact Or.inl (Nat.eq_of_beq_eq_true h)
  · exact Or.inr ⟨Nat.le_of_ble_eq_true h.2.1, Nat.le_of_ble_eq_true h.2.2⟩
  · exact absurd h.1 (by decide)
  · exact absurd h (by decide)
theorem sm_sub7 {ci : Nat} (h : sm_sub ci 7 = true) : 7 ≤ ci ∧ ci ≤ 9 := by
  unfold sm_sub at h
  simp only [Bool.or_eq_true, Bool.and_eq_true] at h
  rcases h with ((h | h) | h) | h
  · have := Nat.eq_of_beq_eq_true h; omega
  · exact absurd h.1 (by decide)
  · rcases h.2 with h | h <;> (have := Nat.eq_of_beq_eq_true h; omega)
  · exact absurd h (by decide)
theorem sm_ok_aastore (C : sm_C p s m args c D cy b base nL cc o L xs) {a n t v ci : Nat} {f : Nat → Option Nat} {fs : List Value} {i : Int32} (hd : decode cc pc = .ok (.aastore, 1)) (ha : w[a]? = some (.inl (t, n, .inr (.inr (.inr (.inr f)))))) (hv : w[v]? = some (.inr (ci, fs))) (ht : (t = 3 ∧ ci = 5) ∨ (t = 4 ∧ sm_sub ci 12 = true)) (hi : ¬ (i < 0 ∨ n ≤ i.toNatClampNeg)) (k : sm_KK p l e R s m args below meth c Q D cy b base w0 nL (pc + 1) (lv) (r) (w.set a (.inl (t, n, .inr (.inr (.inr (.inr (va_up f i.toNatClampNeg (some v))))))))) : sm_KK p l e R s m args below meth c Q D cy b base w0 nL (pc) (lv) (.ref v :: .int i :: .ref a :: r) (w) := by
  intro H locs cells slots ls J
  have hc := sm_ci J.1 hv
  have e1 := sm_upm (base := base) f i.toNatClampNeg (some v)
  rcases ht with ⟨rfl, rfl⟩ | ⟨rfl, h4⟩
  · refine va_astq C.1 C.2.1 C.2.2.2.2.1.1 J.1 (sm_ws_D cy b base w) J.2.1 a 3 v 5 (sm_ws_get ha) (r := (sm_cn 5, sm_T 5, sm_N 5)) rfl (sm_ws_get hv) (sm_cl_get hc) hi hd (fun H1 locs1 hP _ hS => ?_)
    refine k H1 locs1 cells slots ls (J.store ha rfl ?_ hS)
    show va_P D sm_cl ((sm_ws cy b base w).set a (base + a, .inl (cy 3, n, .inr (.inr (.inr (.inr (fun j => (va_up f i.toNatClampNeg (some v) j).map (fun k => base + k)))))))) H1
    rw [← e1]
    exact hP
  · have h5 := sm_sub12 h4
    have hcast : va_Nw (.castable (sm_cn ci) "WordGrid$WordList") s := C.2.2.2.2.1.2.1 _ (sm_cast4 ci (by omega) (by omega)) rfl
    refine va_astqO C.1 C.2.1 C.2.2.2.2.1.1 J.1 (sm_ws_D cy b base w) J.2.1 a 4 v ci (E := "WordGrid$WordList") (sm_ws_get ha) rfl (r := (sm_cn ci, sm_T ci, sm_N ci)) hcast (sm_ws_get hv) (sm_cl_get hc) hi hd (fun H1 locs1 hP _ hS => ?_)
    refine k H1 locs1 cells slots ls (J.store ha rfl ?_ hS)
    show va_P D sm_cl ((sm_ws cy b base w).set a (base + a, .inl (cy 4, n, .inr (.inr (.inr (.inr (fun j => (va_up f i.toNatClampNeg (some v) j).map (fun k => base + k)))))))) H1
    rw [← e1]
    exact hP
theorem sm_ok_aastoreN (C : sm_C p s m args c D cy b base nL cc o L xs) {a n : Nat} {f : Nat → Option Nat} {i : Int32} (hd : decode cc pc = .ok (.aastore, 1)) (ha : w[a]? = some (.inl (4, n, .inr (.inr (.inr (.inr f)))))) (hi : ¬ (i < 0 ∨ n ≤ i.toNatClampNeg)) (k : sm_KK p l e R s m args below meth c Q D cy b base w0 nL (pc + 1) (lv) (r) (w.set a (.inl (4, n, .inr (.inr (.inr (.inr (va_up f i.toNatClampNeg none)))))))) : sm_KK p l e R s m args below meth c Q D cy b base w0 nL (pc) (lv) (.null :: .int i :: .ref a :: r) (w) := by
  intro H locs cells slots ls J
  have e1 := sm_upm (base := base) f i.toNatClampNeg none
  refine va_astqN C.1 C.2.1 C.2.2.2.2.1.1 J.1 (sm_ws_D cy b base w) J.2.1 a 4 (C := "WordGrid$WordList") (sm_ws_get ha) rfl hi hd (fun H1 locs1 hP _ hS => ?_)
  refine k H1 locs1 cells slots ls (J.store ha rfl ?_ hS)
  show va_P D sm_cl ((sm_ws cy b base w).set a (base + a, .inl (cy 4, n, .inr (.inr (.inr (.inr (fun j => (va_up f i.toNatClampNeg none j).map (fun k => base + k)))))))) H1
  rw [← e1]
  exact hP
theorem sm_LC_use {idx n : Nat} (h : sm_inLC o idx n = true) : Cond.classLink (sm_cn o) idx (bif Nat.beq n 103 then "WordGrid$Grid" else bif Nat.beq n 104 then "WordGrid$WordList" else sm_cn n) ∈ sm_ts := by
  unfold sm_inLC at h
  obtain ⟨q, hq, h1⟩ := List.any_eq_true.mp h
  simp only [Bool.and_eq_true] at h1
  have e1 := Nat.eq_of_beq_eq_true h1.1.1
  have e2 := Nat.eq_of_beq_eq_true h1.1.2
  have e3 := Nat.eq_of_beq_eq_true h1.2
  have h2 := List.all_eq_true.mp sm_okLC_ok q hq
  obtain ⟨q1, q2, q3, q4⟩ := q
  dsimp only at e1 e2 e3
  subst e1; subst e2; subst e3
  unfold sm_okLC at h2
  simp only [Bool.and_eq_true] at h2
  exact sm_good (sm_at_mem h2.1) rfl
theorem sm_ok_cast (C : sm_C p s m args c D cy b base nL cc o L xs) {a n ci : Nat} {fs : List Value} (he : sm_enc o ini nL ret bo bp cb pc len rc (.checkcast n) = true) (hd : decode cc pc = .ok (rc, len)) (ha : w[a]? = some (.inr (ci, fs))) (hs : sm_sub ci n = true) (k : sm_KK p l e R s m args below meth c Q D cy b base w0 nL (pc + len) (lv) (.ref a :: r) (w)) : sm_KK p l e R s m args below meth c Q D cy b base w0 nL (pc) (lv) (.ref a :: r) (w) := by
  simp only [sm_enc] at he
  intro H locs cells slots ls J
  split at he
  · simp only [Bool.and_eq_true] at he
    have h3 := Nat.eq_of_beq_eq_true he.2
    have h7 := Nat.eq_of_beq_eq_true he.1.2
    subst h3; subst h7
    have h4 := sm_sub7 hs
    exact va_castY C.1 C.2.1 C.2.2.1 (C.2.2.2.1 _ (sm_LC_use he.1.1)) (C.2.2.2.2.1.2.1 _ (sm_cast7 ci h4.1 h4.2) rfl) (va_recv C.2.2.2.2.1.1 J.1 (sm_cl_get (by omega)) (sm_ws_get ha)) hd (k H locs cells slots ls J)
  · cases he
theorem sm_ok_inst (C : sm_C p s m args c D cy b base nL cc o L xs) {a n ci : Nat} {fs : List Value} (he : sm_enc o ini nL ret bo bp cb pc len rc (.instanceof n) = true) (hd : decode cc pc = .ok (rc, len)) (ha : w[a]? = some (.inr (ci, fs))) (hs : sm_sub ci 12 = true) (k : sm_KK p l e R s m args below meth c Q D cy b base w0 nL (pc + len) (lv) (.int (bif sm_sub ci n then 1 else 0) :: r) (w)) : sm_KK p l e R s m args below meth c Q D cy b base w0 nL (pc) (lv) (.ref a :: r) (w) := by
  simp only [sm_enc] at he
  intro H locs cells slots ls J
  have hk := k H locs cells slots ls J
  have hc := sm_ci J.1 ha
  split at he
  · simp only [Bool.and_eq_true] at he
    have h3 := Nat.eq_of_beq_eq_true he.2
    have h7 := Nat.eq_of_beq_eq_true he.1.2
    subst h3; subst h7
    have h4 := sm_sub12 hs
    have hl := C.2.2.2.1 _ (sm_LC_use he.1.1)
    rcases (show ci = 7 ∨ ci = 8 ∨ ci = 9 ∨ ci = 10 ∨ ci = 11 by omega) with rfl | rfl | rfl | rfl | rfl
    · exact va_instY C.1 C.2.1 C.2.2.1 hl (C.2.2.2.2.1.2.1 _ (sm_cast7 7 (by omega) (by omega)) rfl) (va_recv C.2.2.2.2.1.1 J.1 (sm_cl_get hc) (sm_ws_get ha)) hd hk
    · exact va_instY C.1 C.2.1 C.2.2.1 hl (C.2.2.2.2.1.2.1 _ (sm_cast7 8 (by omega) (by omega)) rfl) (va_recv C.2.2.2.2.1.1 J.1 (sm_cl_get hc) (sm_ws_get ha)) hd hk
    · exact va_instY C.1 C.2.1 C.2.2.1 hl (C.2.2.2.2.1.2.1 _ (sm_cast7 9 (by omega) (by omega)) rfl) (va_recv C.2.2.2.2.1.1 J.1 (sm_cl_get hc) (sm_ws_get ha)) hd hk
    · exact va_instNo C.1 C.2.1 C.2.2.1 hl C.2.2.2.2.1.2.2.2.2.1 (va_recv C.2.2.2.2.1.1 J.1 (sm_cl_get hc) (sm_ws_get ha)) hd hk
    · exact va_instNo C.1 C.2.1 C.2.2.1 hl C.2.2.2.2.1.2.2.2.2.2 (va_recv C.2.2.2.2.1.1 J.1 (sm_cl_get hc) (sm_ws_get ha)) hd hk
  · cases he
/-- a cell is added at the end -/
theorem sm_J.push {H H1 : Heap} {locs : List Loc} {cells slots : Nat} {ls : Array Slot} {x : va_E} (J : sm_J s D cy b base w0 nL w lv H locs cells slots ls) (hbase : base ≤ s.heap.size) (hz : H.size = base + w.length) (z1 : H1.size = base + w.length + 1) (o1 : ∀ q, q < base + w.length → H1[q]? = H[q]?) (e1 : va_at D sm_cl (base + w.length, sm_e cy b base x) H1) : sm_J s D cy b base w0 nL (w ++ [x]) lv H1 locs (cells + 1) (slots + sm_sl x) ls := by
  obtain ⟨h1, h2, h3, h4, h5⟩ := J
  refine ⟨?_, ?_, h3, by rw [List.length_append]; simp; omega, by rw [sm_sz_push]; omega⟩
  · rw [← sm_ws_push]
    refine va_P.app (h1.kept fun k q hq => o1 q.1 (by rw [← hz]; exact (h1 k q hq).lt)) ?_
    intro k q hq
    have hk : k < 1 := (List.getElem?_eq_some_iff.mp hq).1
    rw [show k = 0 by omega] at hq
    cases hq
    exact e1
  · exact ⟨by have := h2.1; omega, fun q g1 g2 => (o1 q (by have := h2.1; omega)).trans (h2.2.1 q g1 g2), h2.2.2⟩
theorem sm_dflt_plain : sm_dflt.all (fun fs => fs.all (fun v => match v with | .ref _ => false | .retAddr _ => false | _ => true)) = true := by decide +kernel
theorem sm_dflt_map {ci : Nat} {fs : List Value} (h : sm_dflt[ci]? = some fs) : fs.map (sm_v b base) = fs := by
  have h1 := List.all_eq_true.mp (List.all_eq_true.mp sm_dflt_plain fs (List.mem_of_getElem? h))
  have h2 : fs.map (sm_v b base) = fs.map id := List.map_congr_left (fun v hv => by
    have h3 := h1 v hv
    cases v <;> first | rfl | (cases h3))
  rw [h2, List.map_id]
theorem sm_ok_new (C : sm_C p s m args c D cy b base nL cc o L xs) {ci : Nat} {fs : List Value} (he : sm_enc o ini nL ret bo bp cb pc len rc (.new ci) = true) (hd : decode cc pc = .ok (rc, len)) (hf : sm_dflt[ci]? = some fs) (hcap : base + (w.length + 1) ≤ s.heap.size + R.cells ∧ sm_sz w + fs.length ≤ sm_sz w0 + R.slots) (k : sm_KK p l e R s m args below meth c Q D cy b base w0 nL (pc + len) (lv) (.ref w.length :: r) (w ++ [.inr (ci, fs)])) : sm_KK p l e R s m args below meth c Q D cy b base w0 nL (pc) (lv) (r) (w) := by
  simp only [sm_enc] at he
  intro H locs cells slots ls J
  split at he
  · simp only [Bool.and_eq_true] at he
    have h3 := Nat.eq_of_beq_eq_true he.2
    have hc := Nat.le_of_ble_eq_true he.1.2
    subst h3
    have hc : ci < 12 := hc
    have hl := C.2.2.2.1 _ (sm_LC_use he.1.1)
    rw [show (bif Nat.beq ci 103 then "WordGrid$Grid" else bif Nat.beq ci 104 then "WordGrid$WordList" else sm_cn ci) = sm_cn ci by
      have e1 : Nat.beq ci 103 = false := by cases hb : Nat.beq ci 103 with | false => rfl | true => exact absurd (Nat.eq_of_beq_eq_true hb) (by omega)
      have e2 : Nat.beq ci 104 = false := by cases hb : Nat.beq ci 104 with | false => rfl | true => exact absurd (Nat.eq_of_beq_eq_true hb) (by omega)
      rw [e1, e2]; rfl] at hl
    have hfl : fs.length = sm_N ci := by
      have := sm_cdl hc
      rw [List.getD_eq_getElem?_getD, hf] at this
      exact this
    have hKn := C.2.2.2.2.1.1.1 ci _ (sm_cl_get hc)
    refine J.size C.2.2.2.2.2.2.2.1 fun hz => ?_
    have hj := J.2.2.2
    refine W.newcK C.1 C.2.1 C.2.2.1 hl (C.2.2.2.1 _ (sm_cinst hc).1) (C.2.2.2.1 _ (sm_cinst hc).2) rfl hd (by omega) (by omega) hKn.2.1 rfl fun H1 kC hkC e1 z1 o1 => ?_
    rw [hz] at e1 z1 o1
    have hJ := J.push (x := .inr (ci, fs)) C.2.2.2.2.2.2.2.1 hz z1 o1 ⟨_, sm_cl_get hc, (u_born (sm_ty ci) C.2.2.2.1 (sm_cin hc) hKn hkC e1 (sm_cty hc)).to (fun j hj => by
      rw [sm_cdf hc j hj, List.getD_eq_getElem?_getD, hf, sm_dflt_map hf]; rfl)⟩
    have hk := k H1 locs _ _ ls hJ
    rw [hz]
    rw [show sm_sl (.inr (ci, fs)) = sm_N ci from hfl] at hk
    exact hk
  · cases he
theorem sm_cap {n : Int32} (h1 : ¬ (n < 0 ∨ 100000 ≤ n)) : ¬ n < 0 ∧ n.toNatClampNeg < 100000 := by
  refine ⟨fun h => h1 (Or.inl h), ?_⟩
  have h2 : ¬ 100000 ≤ n := fun h => h1 (Or.inr h)
  rw [Int32.le_iff_toInt_le] at h2
  have h3 : n.toInt < 100000 := by
    have : (100000 : Int32).toInt = 100000 := by decide
    omega
  have h4 : n.toNatClampNeg = n.toInt.toNat := rfl
  omega
theorem sm_ok_newa_int (C : sm_C p s m args c D cy b base nL cc o L xs) {n : Int32} (hd : decode cc pc = .ok (.newarray .int, 2)) (hn : ¬ (n < 0 ∨ 100000 ≤ n)) (hcap : base + (w.length + 1) ≤ s.heap.size + R.cells ∧ sm_sz w + n.toNatClampNeg ≤ sm_sz w0 + R.slots) (k : sm_KK p l e R s m args below meth c Q D cy b base w0 nL (pc + 2) (lv) (.ref w.length :: r) (w ++ [.inl (0, n.toNatClampNeg, .inl (fun _ => 0))])) : sm_KK p l e R s m args below meth c Q D cy b base w0 nL (pc) (lv) (.int n :: r) (w) := by
  intro H locs cells slots ls J
  obtain ⟨hn1, hn2⟩ := sm_cap hn
  refine J.size C.2.2.2.2.2.2.2.1 fun hz => ?_
  have hj := J.2.2.2
  have hw : Cond.arrayClass .int ∈ sm_ts := sm_good (sm_at_mem sm_okar.1) rfl
  refine va_newaK (atype := .int) C.1 C.2.1 (C.2.2.2.1 _ hw) rfl hd rfl hn1 rfl (Nat.le_trans (Nat.mul_le_mul (Nat.le_of_lt hn2) (show componentBytes (newarray.typeOf .int) ≤ 8 by decide)) (by decide)) (by omega) (by omega) hz fun H1 cA e1 z1 o1 hAr hNm => ?_
  have hcy : cA = cy 0 := Option.some.inj (hNm.symm.trans (C.2.2.2.2.1.1.2 0 _ rfl).2)
  subst hcy
  have hJ := J.push (x := .inl (0, n.toNatClampNeg, .inl (fun _ => 0))) C.2.2.2.2.2.2.2.1 hz z1 o1 e1
  exact k H1 locs _ _ ls hJ

theorem sm_ok_newa_long (C : sm_C p s m args c D cy b base nL cc o L xs) {n : Int32} (hd : decode cc pc = .ok (.newarray .long, 2)) (hn : ¬ (n < 0 ∨ 100000 ≤ n)) (hcap : base + (w.length + 1) ≤ s.heap.size + R.cells ∧ sm_sz w + n.toNatClampNeg ≤ sm_sz w0 + R.slots) (k : sm_KK p l e R s m args below meth c Q D cy b base w0 nL (pc + 2) (lv) (.ref w.length :: r) (w ++ [.inl (1, n.toNatClampNeg, .inr (.inl (fun _ => 0)))])) : sm_KK p l e R s m args below meth c Q D cy b base w0 nL (pc) (lv) (.int n :: r) (w) := by
  intro H locs cells slots ls J
  obtain ⟨hn1, hn2⟩ := sm_cap hn
  refine J.size C.2.2.2.2.2.2.2.1 fun hz => ?_
  have hj := J.2.2.2
  have hw : Cond.arrayClass .long ∈ sm_ts := sm_good (sm_at_mem sm_okar.2.1) rfl
  refine va_newaK (atype := .long) C.1 C.2.1 (C.2.2.2.1 _ hw) rfl hd rfl hn1 rfl (Nat.le_trans (Nat.mul_le_mul (Nat.le_of_lt hn2) (show componentBytes (newarray.typeOf .long) ≤ 8 by decide)) (by decide)) (by omega) (by omega) hz fun H1 cA e1 z1 o1 hAr hNm => ?_
  have hcy : cA = cy 1 := Option.some.inj (hNm.symm.trans (C.2.2.2.2.1.1.2 1 _ rfl).2)
  subst hcy
  have hJ := J.push (x := .inl (1, n.toNatClampNeg, .inr (.inl (fun _ => 0)))) C.2.2.2.2.2.2.2.1 hz z1 o1 e1
  exact k H1 locs _ _ ls hJ

theorem sm_ok_newa_boolean (C : sm_C p s m args c D cy b base nL cc o L xs) {n : Int32} (hd : decode cc pc = .ok (.newarray .boolean, 2)) (hn : ¬ (n < 0 ∨ 100000 ≤ n)) (hcap : base + (w.length + 1) ≤ s.heap.size + R.cells ∧ sm_sz w + n.toNatClampNeg ≤ sm_sz w0 + R.slots) (k : sm_KK p l e R s m args below meth c Q D cy b base w0 nL (pc + 2) (lv) (.ref w.length :: r) (w ++ [.inl (2, n.toNatClampNeg, .inl (fun _ => 0))])) : sm_KK p l e R s m args below meth c Q D cy b base w0 nL (pc) (lv) (.int n :: r) (w) := by
  intro H locs cells slots ls J
  obtain ⟨hn1, hn2⟩ := sm_cap hn
  refine J.size C.2.2.2.2.2.2.2.1 fun hz => ?_
  have hj := J.2.2.2
  have hw : Cond.arrayClass .boolean ∈ sm_ts := sm_good (sm_at_mem sm_okar.2.2.1) rfl
  refine va_newaK (atype := .boolean) C.1 C.2.1 (C.2.2.2.1 _ hw) rfl hd rfl hn1 rfl (Nat.le_trans (Nat.mul_le_mul (Nat.le_of_lt hn2) (show componentBytes (newarray.typeOf .boolean) ≤ 8 by decide)) (by decide)) (by omega) (by omega) hz fun H1 cA e1 z1 o1 hAr hNm => ?_
  have hcy : cA = cy 2 := Option.some.inj (hNm.symm.trans (C.2.2.2.2.1.1.2 2 _ rfl).2)
  subst hcy
  have hJ := J.push (x := .inl (2, n.toNatClampNeg, .inl (fun _ => 0))) C.2.2.2.2.2.2.2.1 hz z1 o1 e1
  exact k H1 locs _ _ ls hJ

theorem sm_ok_anew_3 (C : sm_C p s m args c D cy b base nL cc o L xs) {n : Int32} {idx : Nat} (hd : decode cc pc = .ok (.anewarray idx, 3)) (hl : sm_inLC o idx (100 + 3) = true) (hn : ¬ (n < 0 ∨ 100000 ≤ n)) (hcap : base + (w.length + 1) ≤ s.heap.size + R.cells ∧ sm_sz w + n.toNatClampNeg ≤ sm_sz w0 + R.slots) (k : sm_KK p l e R s m args below meth c Q D cy b base w0 nL (pc + 3) (lv) (.ref w.length :: r) (w ++ [.inl (3, n.toNatClampNeg, .inr (.inr (.inr (.inr (fun _ => none)))))])) : sm_KK p l e R s m args below meth c Q D cy b base w0 nL (pc) (lv) (.int n :: r) (w) := by
  intro H locs cells slots ls J
  obtain ⟨hn1, hn2⟩ := sm_cap hn
  refine J.size C.2.2.2.2.2.2.2.1 fun hz => ?_
  have hj := J.2.2.2
  refine W.anew C.1 C.2.1 C.2.2.1 (C.2.2.2.1 _ (sm_LC_use hl)) (va_AO.use (C := "WordGrid$Grid") C.2.2.2.2.1.2.2.1) rfl hd rfl hn1 (by omega) (by omega) (by omega) fun cA kA comp f1 f2 f3 f4 => ?_
  have hcy : cA = cy 3 := by
    obtain ⟨-, kA2, comp2, g1, g2, g3, g4⟩ := C.2.2.2.2.1.1.2 3 _ rfl
    exact Option.some.inj (f1.symm.trans g4)
  subst hcy
  generalize hH1 : H.push ({ cls := cy 3, slots := Array.replicate n.toNatClampNeg .null, vm := .none } : Cell) = H1
  have z1 : H1.size = base + w.length + 1 := by rw [← hH1, Array.size_push, hz]
  have e1 : H1[base + w.length]? = some (arrV (cy 3) n.toNatClampNeg (fun _ => .null)) := by rw [← hz, ← hH1, Array.getElem?_push_size, ← arrV_new]
  have o1 : ∀ q : Nat, q < base + w.length → H1[q]? = H[q]? := fun q hq => by rw [← hH1, Array.getElem?_push, if_neg (by rw [hz]; exact Nat.ne_of_lt hq)]
  have hJ := J.push (x := .inl (3, n.toNatClampNeg, .inr (.inr (.inr (.inr (fun _ => none)))))) C.2.2.2.2.2.2.2.1 hz z1 o1 e1
  have hk := k H1 locs _ _ ls hJ
  rw [hz]
  exact hk

theorem sm_ok_anew_4 (C : sm_C p s m args c D cy b base nL cc o L xs) {n : Int32} {idx : Nat} (hd : decode cc pc = .ok (.anewarray idx, 3)) (hl : sm_inLC o idx (100 + 4) = true) (hn : ¬ (n < 0 ∨ 100000 ≤ n)) (hcap : base + (w.length + 1) ≤ s.heap.size + R.cells ∧ sm_sz w + n.toNatClampNeg ≤ sm_sz w0 + R.slots) (k : sm_KK p l e R s m args below meth c Q D cy b base w0 nL (pc + 3) (lv) (.ref w.length :: r) (w ++ [.inl (4, n.toNatClampNeg, .inr (.inr (.inr (.inr (fun _ => none)))))])) : sm_KK p l e R s m args below meth c Q D cy b base w0 nL (pc) (lv) (.int n :: r) (w) := by
  intro H locs cells slots ls J
  obtain ⟨hn1, hn2⟩ := sm_cap hn
  refine J.size C.2.2.2.2.2.2.2.1 fun hz => ?_
  have hj := J.2.2.2
  refine W.anew C.1 C.2.1 C.2.2.1 (C.2.2.2.1 _ (sm_LC_use hl)) (va_AO.use (C := "WordGrid$WordList") C.2.2.2.2.1.2.2.2.1) rfl hd rfl hn1 (by omega) (by omega) (by omega) fun cA kA comp f1 f2 f3 f4 => ?_
  have hcy : cA = cy 4 := by
    obtain ⟨-, kA2, comp2, g1, g2, g3, g4⟩ := C.2.2.2.2.1.1.2 4 _ rfl
    exact Option.some.inj (f1.symm.trans g4)
  subst hcy
  generalize hH1 : H.push ({ cls := cy 4, slots := Array.replicate n.toNatClampNeg .null, vm := .none } : Cell) = H1
  have z1 : H1.size = base + w.length + 1 := by rw [← hH1, Array.size_push, hz]
  have e1 : H1[base + w.length]? = some (arrV (cy 4) n.toNatClampNeg (fun _ => .null)) := by rw [← hz, ← hH1, Array.getElem?_push_size, ← arrV_new]
  have o1 : ∀ q : Nat, q < base + w.length → H1[q]? = H[q]? := fun q hq => by rw [← hH1, Array.getElem?_push, if_neg (by rw [hz]; exact Nat.ne_of_lt hq)]
  have hJ := J.push (x := .inl (4, n.toNatClampNeg, .inr (.inr (.inr (.inr (fun _ => none)))))) C.2.2.2.2.2.2.2.1 hz z1 o1 e1
  have hk := k H1 locs _ _ ls hJ
  rw [hz]
  exact hk
end OPS4
