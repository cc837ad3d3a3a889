/-! places and addresses; what a frame keeps -/
def sm_v (b base : Nat) : Value → Value
  | .ref k => .ref (base + k)
  | .retAddr _ => .ref b
  | v => v
def sm_e (cy : Nat → ClassId) (b base : Nat) : va_E → va_E
  | .inl (t, n, .inl f) => .inl (cy t, n, .inl f)
  | .inl (t, n, .inr (.inl f)) => .inl (cy t, n, .inr (.inl f))
  | .inl (t, n, .inr (.inr (.inl f))) => .inl (cy t, n, .inr (.inr (.inl f)))
  | .inl (t, n, .inr (.inr (.inr (.inl f)))) => .inl (cy t, n, .inr (.inr (.inr (.inl f))))
  | .inl (t, n, .inr (.inr (.inr (.inr f)))) => .inl (cy t, n, .inr (.inr (.inr (.inr (fun j => (f j).map (fun k => base + k))))))
  | .inr (ci, fs) => .inr (ci, fs.map (sm_v b base))
def sm_ws (cy : Nat → ClassId) (b base : Nat) (w : sm_W) : va_W := w.mapIdx (fun k x => (base + k, sm_e cy b base x))
theorem sm_ws_get {cy : Nat → ClassId} {b base : Nat} {w : sm_W} {k : Nat} {x : va_E} (h : w[k]? = some x) : (sm_ws cy b base w)[k]? = some (base + k, sm_e cy b base x) := by
  unfold sm_ws
  rw [List.getElem?_mapIdx, h]
  rfl
theorem sm_ws_len (cy : Nat → ClassId) (b base : Nat) (w : sm_W) : (sm_ws cy b base w).length = w.length := by simp [sm_ws]
theorem sm_ws_set (cy : Nat → ClassId) (b base : Nat) (w : sm_W) (k : Nat) (x : va_E) : (sm_ws cy b base w).set k (base + k, sm_e cy b base x) = sm_ws cy b base (w.set k x) := by
  apply List.ext_getElem?
  intro j
  simp only [sm_ws, List.getElem?_set, List.getElem?_mapIdx, List.length_mapIdx]
  by_cases h : k = j
  · subst h
    by_cases h2 : k < w.length
    · simp [h2]
    · simp [h2]
  · simp [h]
theorem sm_ws_push (cy : Nat → ClassId) (b base : Nat) (w : sm_W) (x : va_E) : sm_ws cy b base w ++ [(base + w.length, sm_e cy b base x)] = sm_ws cy b base (w ++ [x]) := by
  simp [sm_ws, List.mapIdx_append]
theorem sm_ws_D (cy : Nat → ClassId) (b base : Nat) (w : sm_W) : va_D (fun q => base ≤ q) (sm_ws cy b base w) := by
  constructor
  · intro i j p q hi hj he
    simp only [sm_ws, List.getElem?_mapIdx, Option.map_eq_some_iff] at hi hj
    obtain ⟨x, -, rfl⟩ := hi
    obtain ⟨y, -, rfl⟩ := hj
    simp at he
    exact he
  · intro k q hk
    simp only [sm_ws, List.getElem?_mapIdx, Option.map_eq_some_iff] at hk
    obtain ⟨x, -, rfl⟩ := hk
    exact Nat.le_add_right _ _
def sm_sl : va_E → Nat
  | .inl (_, n, _) => n
  | .inr (_, fs) => fs.length
def sm_sz (w : sm_W) : Nat := (w.map sm_sl).sum
theorem sm_sz_set {w : sm_W} {a : Nat} {x y : va_E} (h : w[a]? = some x) (e : sm_sl y = sm_sl x) : sm_sz (w.set a y) = sm_sz w := by
  unfold sm_sz
  congr 1
  apply List.ext_getElem?
  intro j
  simp only [List.getElem?_map, List.getElem?_set]
  by_cases hj : a = j
  · subst hj
    obtain ⟨hl, hx⟩ := List.getElem?_eq_some_iff.mp h
    simp [hl, hx, e]
  · simp [hj]
theorem sm_sz_push (w : sm_W) (x : va_E) : sm_sz (w ++ [x]) = sm_sz w + sm_sl x := by simp [sm_sz]
def sm_tys (cy : Nat → ClassId) : List (ClassId × FieldType) := [(cy 0, .int), (cy 1, .long), (cy 2, .boolean), (cy 3, .object "WordGrid$Grid"), (cy 4, .object "WordGrid$WordList")]
def sm_asd : Cond → Bool
  | .methodLinkNest _ _ _ _ => true
  | .castable _ _ => true
  | .declares _ => true
  | _ => false
/-- what the tables say that the words don't keep -/
def sm_K (D : va_G) (cy : Nat → ClassId) (U : State) : Prop :=
  va_K D sm_cl (sm_tys cy) U ∧ (∀ w ∈ lw_tbl, sm_asd w = true → va_Nw w U) ∧ va_AO "WordGrid$Grid" U ∧ va_AO "WordGrid$WordList" U ∧ va_Nc "WordGrid$Pattern" "WordGrid$Plain" U ∧ va_Nc "WordGrid$Joined" "WordGrid$Plain" U
theorem sm_K.moved {D : va_G} {cy : Nat → ClassId} {s U : State} (hW : s.WarmedH U.vm) (h : sm_K D cy s) : sm_K D cy U := by
  obtain ⟨h1, h2, h3, h4, h5, h6⟩ := h
  refine ⟨va_K.moved hW.alike h1, fun w hw ha => ?_, h3.moved hW.alike, h4.moved hW.alike, h5.moved hW.alike, h6.moved hW.alike⟩
  have h7 := h2 w hw ha
  cases w with
  | methodLinkNest a i x h => exact va_Nw.warmM hW h7
  | castable a b => exact va_Nw.warmC hW h7
  | declares x => exact va_Nw.warmD hW h7
  | _ => simp [sm_asd] at ha
theorem sm_X_moved {b L : Nat} {xs : Nat → Int32} {s U : State} {H : Heap} (hW : s.WarmedH U.vm) (h : va_X b L xs s s.heap) (hb : H[b]? = s.heap[b]?) : va_X b L xs U H := by
  obtain ⟨scr, h1, h2, h3, h4, h5⟩ := h
  exact ⟨scr, by rw [hb]; exact h1, State.isArrayOf_alike hW.alike h2, h3, h4, h5⟩
def sm_Pc (D : va_G) (cy : Nat → ClassId) (b base L : Nat) (xs : Nat → Int32) (as : List Value) (w : sm_W) : Array Value → State → Prop := fun v U =>
  v = (as.map (sm_v b base)).toArray ∧ va_P D sm_cl (sm_ws cy b base w) U.heap ∧ U.heap.size = base + w.length ∧ sm_K D cy U ∧ va_X b L xs U U.heap ∧ b < base
def sm_Qc (D : va_G) (cy : Nat → ClassId) (b base : Nat) (r : Option Value) (w : sm_W) : Array Value → State → Outcome → State → Prop := fun _ st oc t =>
  oc = .returned (r.map (sm_v b base)) ∧ va_P D sm_cl (sm_ws cy b base w) t.heap ∧ t.heap.size = base + w.length ∧ va_F (fun q => base ≤ q) st t
theorem sm_blind (D : va_G) (cy : Nat → ClassId) (b base L : Nat) (xs : Nat → Int32) (as : List Value) (w : sm_W) : FrameBlind (sm_Pc D cy b base L xs as w) := by
  intro a U g mk h
  obtain ⟨h1, h2, h3, h4, h5, h6⟩ := h
  exact ⟨h1, h2, h3, sm_K.moved (State.WarmedH.refl U) h4, sm_X_moved (s := U) (U := U.calling g mk a) (State.WarmedH.refl U) h5 rfl, h6⟩
def sm_rm (d mc ms : Nat) : Room := { frames := d, cells := mc, slots := ms, locals := 64 * d }
def sm_wsM (y : Nat) : List Cond := Cond.code (sm_y y) (sm_bytes y) (sm_nL y) (sm_ret y) :: sm_ts
theorem sm_mem {y : Nat} (h : y < sm_MT.length) : sm_m y ∈ sm_MT := by
  unfold sm_m
  rw [List.getD_eq_getElem?_getD, List.getElem?_eq_getElem h]
  exact List.getElem_mem h
theorem sm_code_mem {y : Nat} (h : y < sm_MT.length) : Cond.code (sm_y y) (sm_bytes y) (sm_nL y) (sm_ret y) ∈ sm_ts := sm_good (sm_mc _ (sm_mem h)) rfl
theorem sm_ts_good {w : Cond} (h : w ∈ sm_ts) : (w.onTables && w.keeps) = true ∨ ∃ ty, w = .arrayClass ty := good_of_word (List.mem_filter.mp h).2
theorem sm_gi {y : Nat} (h : y < sm_MT.length) : GoodIn sm_ts (sm_wsM y) := by
  intro w hw
  rcases List.mem_cons.mp hw with rfl | hw
  · exact ⟨sm_code_mem h, sm_ts_good (sm_code_mem h)⟩
  · exact ⟨hw, sm_ts_good hw⟩
theorem sm_okm_at {y : Nat} (h : y < sm_MT.length) : sm_okm (sm_m y) = true := List.all_eq_true.mp sm_okm_ok _ (sm_mem h)
theorem sm_inst {y : Nat} (h : y < sm_MT.length) (hs : Nat.beq (sm_stat y) 0 = true) : Cond.instanceMethod (sm_y y) ∈ sm_ts := by
  have h1 := sm_okm_at h
  unfold sm_okm at h1
  simp only [Bool.and_eq_true] at h1
  have h2 := sm_at_mem h1.1.1.1.1.1.1
  have h3 : (sm_m y).2.2.2.2.2.2.1 = 0 := Nat.eq_of_beq_eq_true hs
  rw [h3] at h2
  exact sm_good h2 rfl
theorem sm_static {y : Nat} (h : y < sm_MT.length) (hs : Nat.beq (sm_stat y) 1 = true) : Cond.static (sm_y y) ∈ sm_ts := by
  have h1 := sm_okm_at h
  unfold sm_okm at h1
  simp only [Bool.and_eq_true] at h1
  have h2 := sm_at_mem h1.1.1.1.1.1.1
  have h3 : (sm_m y).2.2.2.2.2.2.1 = 1 := Nat.eq_of_beq_eq_true hs
  rw [h3] at h2
  exact sm_good h2 rfl
theorem sm_inited {y : Nat} (h : y < sm_MT.length) (hs : (!(Nat.beq (sm_own y) 16)) = true) : Cond.initialized (sm_y y).cls ∈ sm_ts := by
  have h1 := sm_okm_at h
  unfold sm_okm at h1
  simp only [Bool.and_eq_true, Bool.or_eq_true] at h1
  rcases h1.1.1.1.1.1.2 with h2 | h2
  · have : Nat.beq (sm_own y) 16 = true := h2
    rw [this] at hs
    cases hs
  · exact sm_good (sm_at_mem h2) rfl
theorem sm_desc {y : Nat} (h : y < sm_MT.length) : (sm_y y).cls ≠ "java/lang/invoke/MethodHandle" ∧ (sm_y y).cls ≠ "java/lang/invoke/VarHandle" ∧ (parseMethodDescriptor (sm_y y).desc).map (fun d => d.parameters.length) = some (sm_np y) := by
  have h1 := sm_okm_at h
  unfold sm_okm at h1
  simp only [Bool.and_eq_true, decide_eq_true_eq] at h1
  exact ⟨h1.1.1.1.2.1, h1.1.1.1.2.2, h1.1.1.1.1.2⟩
theorem sm_nL_le {y : Nat} (h : y < sm_MT.length) : sm_nL y ≤ 40 := by
  have h1 := sm_okm_at h
  unfold sm_okm at h1
  simp only [Bool.and_eq_true, decide_eq_true_eq] at h1
  exact h1.1.2
theorem sm_own_cn {y : Nat} (h : y < sm_MT.length) : sm_cn (sm_own y) = (sm_y y).cls := by
  have h1 := sm_okm_at h
  unfold sm_okm at h1
  simp only [Bool.and_eq_true, decide_eq_true_eq] at h1
  exact h1.2
theorem sm_plain_ok {y : Nat} (h : y < sm_MT.length) (hs : (!(Nat.beq (sm_own y) 16)) = true) : plainFor (sm_y y) = true := by
  have h1 := sm_okm_at h
  unfold sm_okm at h1
  simp only [Bool.and_eq_true, Bool.or_eq_true] at h1
  rcases h1.1.1.2 with (h2 | h2) | h2
  · have : Nat.beq (sm_own y) 16 = true := h2
    rw [this] at hs
    cases hs
  · exact List.all_eq_true.mp sm_math_ok (sm_m y) (List.mem_filter.mpr ⟨sm_mem h, h2⟩)
  · exact plainFor_of_name h2
theorem sm_cl_get {ci : Nat} (h : ci < 12) : sm_cl[ci]? = some (sm_cn ci, sm_T ci, sm_N ci) := by
  unfold sm_cl
  rw [List.getElem?_map, List.getElem?_range h]
  rfl
theorem sm_okc_at {ci : Nat} (h : ci < 12) : sm_okc ci = true := List.all_eq_true.mp sm_okc_ok ci (List.mem_range.mpr h)
theorem sm_lay_good (C : String) (T : u_T) (k : Nat) : goodWord (u_lay C T k) = true := by
  unfold u_lay
  split <;> rfl
theorem sm_cin {ci : Nat} (h : ci < 12) : ∀ w ∈ u_ws (sm_cn ci) (sm_T ci) (sm_N ci), w ∈ sm_ts := by
  intro w hw
  unfold u_ws at hw
  obtain ⟨k, hk, rfl⟩ := List.mem_map.mp hw
  have h1 := sm_okc_at h
  unfold sm_okc at h1
  simp only [Bool.and_eq_true] at h1
  have h2 := List.all_eq_true.mp h1.1.1.1.1 k hk
  simp only [Bool.and_eq_true] at h2
  exact sm_good (sm_at_mem h2.1.1) (sm_lay_good _ _ _)
theorem sm_cty {ci : Nat} (h : ci < 12) : ∀ k, k < sm_N ci → parseFieldDescriptor (sm_T ci k).2.2.1 = some (sm_ty ci k) := by
  intro k hk
  have h1 := sm_okc_at h
  unfold sm_okc at h1
  simp only [Bool.and_eq_true] at h1
  have h2 := List.all_eq_true.mp h1.1.1.1.1 k (List.mem_range.mpr hk)
  simp only [Bool.and_eq_true] at h2
  obtain ⟨t, ht⟩ := Option.isSome_iff_exists.mp h2.1.2
  unfold sm_ty
  rw [ht]
  rfl
theorem sm_cdf {ci : Nat} (h : ci < 12) : ∀ k, k < sm_N ci → defaultValue (sm_ty ci k) = vp_V (sm_dflt.getD ci []) k := by
  intro k hk
  have h1 := sm_okc_at h
  unfold sm_okc at h1
  simp only [Bool.and_eq_true] at h1
  have h2 := List.all_eq_true.mp h1.1.1.1.1 k (List.mem_range.mpr hk)
  simp only [Bool.and_eq_true, decide_eq_true_eq] at h2
  exact h2.2
theorem sm_cinst {ci : Nat} (h : ci < 12) : Cond.instantiable (sm_cn ci) (sm_N ci) ∈ sm_ts ∧ Cond.initialized (sm_cn ci) ∈ sm_ts := by
  have h1 := sm_okc_at h
  unfold sm_okc at h1
  simp only [Bool.and_eq_true] at h1
  exact ⟨sm_good (sm_at_mem h1.1.1.1.2) rfl, sm_good (sm_at_mem h1.1.1.2) rfl⟩
theorem sm_cdl {ci : Nat} (h : ci < 12) : (sm_dflt.getD ci []).length = sm_N ci := by
  have h1 := sm_okc_at h
  unfold sm_okc at h1
  simp only [Bool.and_eq_true, decide_eq_true_eq] at h1
  exact h1.2
theorem sm_cnm {ci : Nat} (h : ci < 12) : ∀ a, a < sm_N ci → ∀ b, b < sm_N ci → a ≠ b → (sm_T ci a).2.1 ≠ (sm_T ci b).2.1 := by
  intro a ha b hb hab he
  have h1 := sm_okc_at h
  unfold sm_okc at h1
  simp only [Bool.and_eq_true, decide_eq_true_eq] at h1
  have h2 := h1.1.2
  apply hab
  have ha' : a < ((sm_Fs ci).map (fun f => f.2.1)).length := by rw [List.length_map]; exact ha
  have hb' : b < ((sm_Fs ci).map (fun f => f.2.1)).length := by rw [List.length_map]; exact hb
  refine (List.getElem_inj (h₀ := ha') (h₁ := hb') h2).mp ?_
  rw [List.getElem_map, List.getElem_map]
  unfold sm_T at he
  rw [List.getD_eq_getElem?_getD, List.getD_eq_getElem?_getD, List.getElem?_eq_getElem (show a < (sm_Fs ci).length from ha), List.getElem?_eq_getElem (show b < (sm_Fs ci).length from hb)] at he
  exact he
theorem sm_get_mem : ∀ {lv : sm_L} {i : Nat} {v : Value}, sm_get lv i = some v → (i, v) ∈ lv
  | [], _, _, h => by cases h
  | (k, u) :: r, i, v, h => by
    unfold sm_get at h
    cases hb : Nat.beq k i with
    | true =>
      rw [hb] at h
      have : k = i := Nat.eq_of_beq_eq_true hb
      subst this
      cases h
      exact List.mem_cons_self
    | false =>
      rw [hb] at h
      exact List.mem_cons_of_mem _ (sm_get_mem h)
def sm_lm (b base : Nat) (lv : sm_L) : List (Nat × Value) := lv.map (fun q => (q.1, sm_v b base q.2))
theorem sm_v_cat (b base : Nat) (v : Value) : (sm_v b base v).category = v.category := by cases v <;> rfl
theorem sm_put_map (b base : Nat) (lv : sm_L) (i : Nat) (v : Value) : (i, sm_v b base v) :: (sm_lm b base lv).filter (fun q => !(q.1 == i) && !(q.1 + 1 == i && q.2.category == 2)) = sm_lm b base (sm_put lv i v) := by
  unfold sm_put sm_lm
  rw [List.map_cons, List.filter_map]
  congr 2
  apply List.filter_congr
  intro q _
  simp only [Function.comp, sm_v_cat]
theorem sm_put2_map (b base : Nat) (lv : sm_L) (i : Nat) (v : Value) : (i, sm_v b base v) :: (sm_lm b base lv).filter (fun q => !(q.1 == i) && (!(q.1 == i + 1) && !(q.1 + 1 == i && q.2.category == 2))) = sm_lm b base (sm_put2 lv i v) := by
  unfold sm_put2 sm_lm
  rw [List.map_cons, List.filter_map]
  congr 2
  apply List.filter_congr
  intro q _
  simp only [Function.comp, sm_v_cat]
theorem sm_lv_get {ls : Array Slot} {nL b base : Nat} {lv : sm_L} (h : lv_has ls nL (sm_lm b base lv)) {i : Nat} {v : Value} (hg : sm_get lv i = some v) : ls[i]? = some (.val (sm_v b base v)) :=
  h.2.2 (i, sm_v b base v) (List.mem_map.mpr ⟨(i, v), sm_get_mem hg, rfl⟩)
theorem sm_words_map (b base : Nat) (st : List Value) : ((st.map (sm_v b base)).map fun v => v.category).sum = sm_words st := by
  unfold sm_words
  rw [List.map_map]
  congr 1
  apply List.map_congr_left
  intro v _
  exact sm_v_cat b base v
theorem sm_args_map (b base : Nat) : ∀ (as : List Value) (i : Nat), lv_args i (as.map (sm_v b base)) = sm_lm b base (lv_args i as)
  | [], _ => rfl
  | v :: vs, i => by
    show (i, sm_v b base v) :: lv_args (if (sm_v b base v).category = 2 then i + 2 else i + 1) (vs.map (sm_v b base)) = (i, sm_v b base v) :: sm_lm b base (lv_args (if v.category = 2 then i + 2 else i + 1) vs)
    rw [sm_v_cat, sm_args_map b base vs]
