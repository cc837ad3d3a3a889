/-! the contract of every method, and of the law -/
theorem sm_nLs_ok : (List.range 231).all (fun y => Nat.beq (sm_nLs.getD y 0) (sm_nL y)) = true := by decide +kernel
theorem sm_MT_len : sm_MT.length = 231 := by decide +kernel
theorem sm_code_eq (y b : Nat) : sm_code y b = ((sm_prog.getD y (false, [])).2).getD b [] := by
  unfold sm_code
  rw [List.getD_eq_getElem?_getD, List.getD_eq_getElem?_getD]
  cases h : sm_prog[y]? with
  | none => rfl
  | some q =>
    dsimp only
    cases h2 : q.2[b]? with
    | none => simp [h2]
    | some v => simp [h2]
theorem sm_meth_mono {L : Nat} {xs : Nat → Int32} {calls : Nat → List Value → sm_W → sm_O} {y : Nat} {r : Option Value} {wf : sm_W} (hc : ∀ y as w r w1, calls y as w = some (r, w1) → w.length ≤ w1.length ∧ sm_sz w ≤ sm_sz w1) :
    ∀ (n t : Nat) (lv : sm_L) (st : List Value) (w : sm_W), sm_meth L xs calls y n t lv st w = some (r, wf) → w.length ≤ wf.length ∧ sm_sz w ≤ sm_sz wf
  | 0, _, _, _, _, h => by cases h
  | n + 1, t, lv, st, w, h => sm_blk_mono hc (sm_meth_mono hc n) _ _ _ _ h
theorem sm_copy_mono {as : List Value} {w w1 : sm_W} {r : Option Value} (h : sm_copy as w = some (r, w1)) : w.length ≤ w1.length ∧ sm_sz w ≤ sm_sz w1 := by
  unfold sm_copy at h
  split at h
  · split at h
    · split at h
      · cases h
      · rename_i hb _
        cases h
        exact sm_m_set hb rfl
    · cases h
  · cases h
theorem sm_call_cases {L : Nat} {xs : Nat → Int32} {d n y : Nat} {as : List Value} {w : sm_W} {q : Option Value × sm_W} (h : sm_call L xs (d + 1) n y as w = some q) :
    (y = 400 ∧ sm_copy as w = some q) ∨ (y = 401 ∧ (∃ a, as = [.ref a]) ∧ q = (none, w)) ∨ (y ≠ 400 ∧ y ≠ 401 ∧ sm_words as ≤ sm_nLs.getD y 0 ∧ sm_meth L xs (sm_call L xs d n) y n 0 (lv_args 0 as) [] w = some q) := by
  unfold sm_call at h
  cases h1 : Nat.beq y 400 with
  | true =>
    rw [h1] at h
    exact Or.inl ⟨Nat.eq_of_beq_eq_true h1, h⟩
  | false =>
    rw [h1] at h
    simp only [cond_false] at h
    cases h2 : Nat.beq y 401 with
    | true =>
      rw [h2] at h
      simp only [cond_true] at h
      split at h
      · cases h
        exact Or.inr (Or.inl ⟨Nat.eq_of_beq_eq_true h2, ⟨_, rfl⟩, rfl⟩)
      · cases h
    | false =>
      rw [h2] at h
      simp only [cond_false] at h
      cases h3 : Nat.ble (sm_words as) (sm_nLs.getD y 0) with
      | false => rw [h3] at h; cases h
      | true =>
        rw [h3] at h
        exact Or.inr (Or.inr ⟨fun e => (by rw [e] at h1; cases h1), fun e => (by rw [e] at h2; cases h2), Nat.le_of_ble_eq_true h3, h⟩)
theorem sm_call_mono {L : Nat} {xs : Nat → Int32} {n : Nat} : ∀ (d y : Nat) (as : List Value) (w : sm_W) (r : Option Value) (w1 : sm_W), sm_call L xs d n y as w = some (r, w1) → w.length ≤ w1.length ∧ sm_sz w ≤ sm_sz w1
  | 0, _, _, _, _, _, h => by cases h
  | d + 1, y, as, w, r, w1, h => by
    rcases sm_call_cases h with ⟨-, h⟩ | ⟨-, -, h⟩ | ⟨-, -, -, h⟩
    · exact sm_copy_mono h
    · cases h
      exact sm_m_refl _
    · exact sm_meth_mono (sm_call_mono d) _ _ _ _ _ h
section MET
variable {p : Program} {l : Launch} {e : Env} {R : Room} {s : State} {m : MethodId} {args : Array Value} {below : List Frame} {meth : Method} {c : Code} {Q : State → Prop} {D : va_G} {cy : Nat → ClassId} {b base : Nat} {w0 : sm_W} {nL : Nat}
variable {cc : ByteArray} {o : Nat} {L : Nat} {xs : Nat → Int32} {r : Option Value} {wf : sm_W} {calls : Nat → List Value → sm_W → sm_O} {ini : Bool} {ret : Option FieldType}
theorem sm_meth_ok {y : Nat} (C : sm_C p s m args c D cy b base nL cc o L xs) (hini : ini = true → meth.name = "<init>") (hok : sm_okQ cc o ini nL ret (sm_bo y) (sm_bp.getD y []) ((sm_prog.getD y (false, [])).2) = true) (hM : (∃ d, sm_Ms l D cy b base L xs d calls ∧ d + 1 ≤ R.frames ∧ 64 * (d + 1) ≤ R.locals) ∨ ∀ y as w, calls y as w = none) (hcm : ∀ y as w r w1, calls y as w = some (r, w1) → w.length ≤ w1.length ∧ sm_sz w ≤ sm_sz w1)
    (hcap : base + wf.length ≤ s.heap.size + R.cells ∧ sm_sz wf ≤ sm_sz w0 + R.slots) (E : sm_End p l e R s m args below meth c Q D cy b base w0 cc ret r wf) :
    ∀ (n t : Nat) (lv : sm_L) (st : List Value) (w : sm_W), sm_meth L xs calls y n t lv st w = some (r, wf) → ∀ q, (sm_bp.getD y [])[t]? = some q → sm_KK p l e R s m args below meth c Q D cy b base w0 nL (q) (lv) (st) (w)
  | 0, _, _, _, _, h, _, _ => by cases h
  | n + 1, t, lv, st, w, h, q, hq => by
    unfold sm_okQ at hok
    simp only [Bool.and_eq_true] at hok
    obtain ⟨⟨h1, h2⟩, h3⟩ := hok
    have hlt := (List.getElem?_eq_some_iff.mp hq).1
    rw [Nat.eq_of_beq_eq_true h1] at hlt
    have h4 := List.all_eq_true.mp h3 t (List.mem_range.mpr hlt)
    rw [List.getD_eq_getElem?_getD (l := sm_bp.getD y []), hq, ← sm_code_eq] at h4
    exact sm_blk_ok C hini hM hcm (sm_meth_ok C hini (by unfold sm_okQ; simp only [Bool.and_eq_true]; exact ⟨⟨h1, h2⟩, h3⟩) hM hcm hcap E n) (sm_meth_mono hcm n) hcap E (sm_code y t) q lv st w h4 h
end MET
set_option maxRecDepth 100000 in
theorem sm_okA : ([0, 1, 2, 3, 4, 5, 6, 7, 8, 9, 10, 11, 12, 13, 14, 15, 16, 17, 18, 19, 20, 21, 22, 23, 24, 25, 26, 27, 28, 29, 30, 31, 32, 33, 34, 35, 36, 37, 38, 39, 40, 41, 42, 43, 44, 45, 46, 47, 48, 49, 50, 51, 52, 53, 54, 55, 56, 57, 58, 59, 60, 61, 62, 63, 64, 65, 66, 67, 68, 69, 70, 71, 72, 73, 74, 75, 76, 77, 78, 79, 80, 81, 82, 83, 84, 85, 86, 87, 88, 89, 90, 91, 92, 93, 94, 95, 96, 97, 98, 99, 100, 101, 102, 103, 104, 105, 106, 107, 108, 109, 110, 111, 112, 113, 114, 115, 116, 117, 118, 119, 120, 121, 122, 123, 124, 125, 126, 127, 128, 129, 130, 131, 132, 133, 134, 135, 136, 137, 138, 139, 140, 141, 142, 143, 144, 145, 146, 147, 148, 149, 150, 151, 152, 153, 154, 155, 156, 157, 158, 159, 160, 161, 162, 163, 164, 165, 166, 167, 168, 169, 170, 171, 172, 173, 174, 175, 176, 177, 178, 179, 180, 181, 182, 183, 184, 185, 186, 187, 188, 189, 190, 191, 192, 193, 194, 195, 196, 197, 198, 199, 200, 201, 202, 203, 204, 205, 206, 207, 208, 209, 210, 211, 212, 213, 214, 215, 216, 217, 218, 219, 220, 221, 222, 223, 224, 225, 226, 227, 228, 229, 230]).all sm_okM = true := by
  simp only [List.all_cons, List.all_nil, Bool.and_true, sm_ok_0, sm_ok_1, sm_ok_2, sm_ok_3, sm_ok_4, sm_ok_5, sm_ok_6, sm_ok_7, sm_ok_8, sm_ok_9, sm_ok_10, sm_ok_11, sm_ok_12, sm_ok_13, sm_ok_14, sm_ok_15, sm_ok_16, sm_ok_17, sm_ok_18, sm_ok_19, sm_ok_20, sm_ok_21, sm_ok_22, sm_ok_23, sm_ok_24, sm_ok_25, sm_ok_26, sm_ok_27, sm_ok_28, sm_ok_29, sm_ok_30, sm_ok_31, sm_ok_32, sm_ok_33, sm_ok_34, sm_ok_35, sm_ok_36, sm_ok_37, sm_ok_38, sm_ok_39, sm_ok_40, sm_ok_41, sm_ok_42, sm_ok_43, sm_ok_44, sm_ok_45, sm_ok_46, sm_ok_47, sm_ok_48, sm_ok_49, sm_ok_50, sm_ok_51, sm_ok_52, sm_ok_53, sm_ok_54, sm_ok_55, sm_ok_56, sm_ok_57, sm_ok_58, sm_ok_59, sm_ok_60, sm_ok_61, sm_ok_62, sm_ok_63, sm_ok_64, sm_ok_65, sm_ok_66, sm_ok_67, sm_ok_68, sm_ok_69, sm_ok_70, sm_ok_71, sm_ok_72, sm_ok_73, sm_ok_74, sm_ok_75, sm_ok_76, sm_ok_77, sm_ok_78, sm_ok_79, sm_ok_80, sm_ok_81, sm_ok_82, sm_ok_83, sm_ok_84, sm_ok_85, sm_ok_86, sm_ok_87, sm_ok_88, sm_ok_89, sm_ok_90, sm_ok_91, sm_ok_92, sm_ok_93, sm_ok_94, sm_ok_95, sm_ok_96, sm_ok_97, sm_ok_98, sm_ok_99, sm_ok_100, sm_ok_101, sm_ok_102, sm_ok_103, sm_ok_104, sm_ok_105, sm_ok_106, sm_ok_107, sm_ok_108, sm_ok_109, sm_ok_110, sm_ok_111, sm_ok_112, sm_ok_113, sm_ok_114, sm_ok_115, sm_ok_116, sm_ok_117, sm_ok_118, sm_ok_119, sm_ok_120, sm_ok_121, sm_ok_122, sm_ok_123, sm_ok_124, sm_ok_125, sm_ok_126, sm_ok_127, sm_ok_128, sm_ok_129, sm_ok_130, sm_ok_131, sm_ok_132, sm_ok_133, sm_ok_134, sm_ok_135, sm_ok_136, sm_ok_137, sm_ok_138, sm_ok_139, sm_ok_140, sm_ok_141, sm_ok_142, sm_ok_143, sm_ok_144, sm_ok_145, sm_ok_146, sm_ok_147, sm_ok_148, sm_ok_149, sm_ok_150, sm_ok_151, sm_ok_152, sm_ok_153, sm_ok_154, sm_ok_155, sm_ok_156, sm_ok_157, sm_ok_158, sm_ok_159, sm_ok_160, sm_ok_161, sm_ok_162, sm_ok_163, sm_ok_164, sm_ok_165, sm_ok_166, sm_ok_167, sm_ok_168, sm_ok_169, sm_ok_170, sm_ok_171, sm_ok_172, sm_ok_173, sm_ok_174, sm_ok_175, sm_ok_176, sm_ok_177, sm_ok_178, sm_ok_179, sm_ok_180, sm_ok_181, sm_ok_182, sm_ok_183, sm_ok_184, sm_ok_185, sm_ok_186, sm_ok_187, sm_ok_188, sm_ok_189, sm_ok_190, sm_ok_191, sm_ok_192, sm_ok_193, sm_ok_194, sm_ok_195, sm_ok_196, sm_ok_197, sm_ok_198, sm_ok_199, sm_ok_200, sm_ok_201, sm_ok_202, sm_ok_203, sm_ok_204, sm_ok_205, sm_ok_206, sm_ok_207, sm_ok_208, sm_ok_209, sm_ok_210, sm_ok_211, sm_ok_212, sm_ok_213, sm_ok_214, sm_ok_215, sm_ok_216, sm_ok_217, sm_ok_218, sm_ok_219, sm_ok_220, sm_ok_221, sm_ok_222, sm_ok_223, sm_ok_224, sm_ok_225, sm_ok_226, sm_ok_227, sm_ok_228, sm_ok_229, sm_ok_230]
theorem sm_okM_at {y : Nat} (h : y < 231) : sm_okM y = true := by
  refine List.all_eq_true.mp sm_okA y ?_
  have h1 : y ∈ List.range 231 := List.mem_range.mpr h
  have h2 : List.range 231 = [0, 1, 2, 3, 4, 5, 6, 7, 8, 9, 10, 11, 12, 13, 14, 15, 16, 17, 18, 19, 20, 21, 22, 23, 24, 25, 26, 27, 28, 29, 30, 31, 32, 33, 34, 35, 36, 37, 38, 39, 40, 41, 42, 43, 44, 45, 46, 47, 48, 49, 50, 51, 52, 53, 54, 55, 56, 57, 58, 59, 60, 61, 62, 63, 64, 65, 66, 67, 68, 69, 70, 71, 72, 73, 74, 75, 76, 77, 78, 79, 80, 81, 82, 83, 84, 85, 86, 87, 88, 89, 90, 91, 92, 93, 94, 95, 96, 97, 98, 99, 100, 101, 102, 103, 104, 105, 106, 107, 108, 109, 110, 111, 112, 113, 114, 115, 116, 117, 118, 119, 120, 121, 122, 123, 124, 125, 126, 127, 128, 129, 130, 131, 132, 133, 134, 135, 136, 137, 138, 139, 140, 141, 142, 143, 144, 145, 146, 147, 148, 149, 150, 151, 152, 153, 154, 155, 156, 157, 158, 159, 160, 161, 162, 163, 164, 165, 166, 167, 168, 169, 170, 171, 172, 173, 174, 175, 176, 177, 178, 179, 180, 181, 182, 183, 184, 185, 186, 187, 188, 189, 190, 191, 192, 193, 194, 195, 196, 197, 198, 199, 200, 201, 202, 203, 204, 205, 206, 207, 208, 209, 210, 211, 212, 213, 214, 215, 216, 217, 218, 219, 220, 221, 222, 223, 224, 225, 226, 227, 228, 229, 230] := by decide +kernel
  rw [← h2]
  exact h1
theorem sm_sl_len : ∀ vs : List Value, (lg_sl vs).length = sm_words vs
  | [] => rfl
  | v :: vs => by
    have ih := sm_sl_len vs
    have e1 : lg_sl (v :: vs) = (if v.category = 2 then [.val v, .second] else [.val v]) ++ lg_sl vs := rfl
    have e2 : sm_words (v :: vs) = v.category + sm_words vs := rfl
    rw [e1, e2, List.length_append, ih]
    rcases lv_cat v with h | h
    · rw [h, if_neg (by decide)]; rfl
    · rw [h, if_pos rfl]; rfl
theorem sm_words_v (b base : Nat) (vs : List Value) : sm_words (vs.map (sm_v b base)) = sm_words vs := sm_words_map b base vs
theorem sm_bp0 {y : Nat} {cc : ByteArray} {o nL : Nat} {ini bo : Bool} {ret : Option FieldType} {bp : List Nat} {q : List (List sm_I)} (h : sm_okQ cc o ini nL ret bo bp q = true) : bp[0]? = some 0 := by
  unfold sm_okQ at h
  simp only [Bool.and_eq_true] at h
  have h2 := h.1.2
  split at h2
  · assumption
  · cases h2
set_option maxHeartbeats 2000000 in
theorem sm_Ms_step (l : Launch) (D : va_G) (cy : Nat → ClassId) (b base L : Nat) (xs : Nat → Int32) (n d : Nat)
    (hM : (∃ d', sm_Ms l D cy b base L xs d' (sm_call L xs d n) ∧ d' + 1 ≤ d ∧ 64 * (d' + 1) ≤ 64 * d) ∨ ∀ y as w, sm_call L xs d n y as w = none) : sm_Ms l D cy b base L xs d (sm_call L xs (d + 1) n) := by
  refine ⟨fun y as w r w1 h => sm_call_mono (d + 1) y as w r w1 h, ?_, ?_, ?_⟩
  · intro y as w r w1 h h400 h401 hy ho
    rcases sm_call_cases h with ⟨h1, -⟩ | ⟨h1, -⟩ | ⟨-, -, hw, h1⟩
    · exact absurd h1 h400
    · exact absurd h1 h401
    have hm := sm_call_mono (d + 1) y as w r w1 h
    have hy2 : y < 231 := by rw [← sm_MT_len]; exact hy
    have hnl : sm_nLs.getD y 0 = sm_nL y := Nat.eq_of_beq_eq_true (List.all_eq_true.mp sm_nLs_ok y (List.mem_range.mpr hy2))
    rw [hnl] at hw
    refine va_MetF (cc := sm_bytes y) (maxL := sm_nL y) (ret := sm_ret y) (sm_plain_ok hy ho) rfl ?_
    intro p e s m args below meth c s₁ B hml hv
    obtain ⟨rfl, hP, hz, hK, hX, hb⟩ := hv
    have C : sm_C p s m (as.map (sm_v b base)).toArray c D cy b base (sm_nL y) (sm_bytes y) (sm_own y) L xs :=
      ⟨B.exec, B.bytes, by rw [sm_own_cn hy]; exact findClass_of_methodNamed B.named, fun w hw => atoms_spec (ws := sm_wsM y) B.pre w (List.mem_cons_of_mem _ hw), hK, hX, hb, by omega, hml⟩
    have hini : decide ((sm_y y).name = "<init>") = true → meth.name = "<init>" := fun h => (name_of_methodNamed B.named B.method).1.trans (of_decide_eq_true h)
    have hlocks := B.notSynchronized
    have hr := B.returns
    have hl := lv_entry (as.map (sm_v b base)) (n := sm_nL y) (by rw [sm_sl_len, sm_words_v]; exact hw)
    rw [lg_entry_eq]
    generalize (lg_sl (as.map (sm_v b base)) ++ List.replicate (sm_nL y - (lg_sl (as.map (sm_v b base))).length) Slot.unset).toArray = ls at hl ⊢
    rw [sm_args_map] at hl
    have hokm := sm_okM_at hy2
    have hcells : ∀ cells, s.heap.size + cells = base + w1.length → cells = w1.length - w.length := fun cells h => by omega
    have hslots : ∀ slots, sm_sz w + slots = sm_sz w1 → slots = sm_sz w1 - sm_sz w := fun slots h => by omega
    have hQ : ∀ (H : Heap) (locs : List Loc), va_P D sm_cl (sm_ws cy b base w1) H → H.size = base + w1.length → va_S (fun q => base ≤ q) s.heap H locs → ∀ t : State, t.heap = H → s.WarmedH t.vm → sm_Qc D cy b base r w1 (as.map (sm_v b base)).toArray s (.returned (r.map (sm_v b base))) t := by
      intro H locs h1 h2 h3 t ht _
      exact ⟨rfl, by rw [ht]; exact h1, by rw [ht]; exact h2, by rw [ht]; exact h3.1, fun q g1 g2 => by rw [ht]; exact h3.2.1 q g1 g2⟩
    have E : sm_End p l e (sm_rm d (w1.length - w.length) (sm_sz w1 - sm_sz w)) s m (as.map (sm_v b base)).toArray below meth c (MQ below (sm_Qc D cy b base r w1) (as.map (sm_v b base)).toArray s (w1.length - w.length) (sm_sz w1 - sm_sz w) (fun q => base ≤ q)) D cy b base w (sm_bytes y) (sm_ret y) r w1 := by
      intro pc rc H locs cells slots ls hd hkind hP1 hz1 hS1 hc1 hs1
      have e1 := hcells _ hc1
      have e2 := hslots _ hs1
      subst e1; subst e2
      have hq := hQ H locs hP1 hz1 hS1
      rcases hkind with ⟨rfl, g1, x, rfl⟩ | ⟨rfl, g1, g2⟩ | ⟨rfl, g1, x, rfl⟩ | ⟨rfl, ⟨t, g1⟩, g2⟩ | ⟨rfl, g1, rfl⟩
      · exact W.iret C.1 C.2.1 (hr.trans g1) hq hS1.2.2 hd
      · rcases g2 with rfl | rfl
        · exact W.zret C.1 C.2.1 (hr.trans g1) rfl hq hS1.2.2 hd
        · exact W.zret C.1 C.2.1 (hr.trans g1) rfl hq hS1.2.2 hd
      · exact W.lret C.1 C.2.1 (hr.trans g1) hq hS1.2.2 hd
      · rcases g2 with rfl | ⟨a, rfl⟩
        · exact W.aret C.1 C.2.1 (hr.trans g1) (Or.inl ⟨_, rfl⟩) (Or.inl rfl) hq hS1.2.2 hd
        · exact W.aret C.1 C.2.1 (hr.trans g1) (Or.inl ⟨_, rfl⟩) (Or.inr ⟨_, rfl⟩) hq hS1.2.2 hd
      · exact W.vret C.1 C.2.1 (hr.trans g1) hq hS1.2.2 hd
    have key := sm_meth_ok (l := l) (w0 := w) (y := y) C hini hokm hM (sm_call_mono d) ⟨by show base + w1.length ≤ s.heap.size + (w1.length - w.length); omega, by show sm_sz w1 ≤ sm_sz w + (sm_sz w1 - sm_sz w); omega⟩ E n 0 (lv_args 0 as) [] w h1 0 (sm_bp0 (y := y) hokm)
    exact key s.heap [] 0 0 ls ⟨hP, va_S.rf, hl, by omega, by omega⟩
  · intro as w
    rfl
  · intro as w r w1 h
    rcases sm_call_cases h with ⟨h1, -⟩ | ⟨-, h2, h3⟩ | ⟨-, h1, -⟩
    · cases h1
    · cases h3
      exact ⟨h2, rfl, rfl⟩
    · exact absurd rfl h1
/-- every run of the small machine is a run of the machine -/
theorem sm_Ms_ok (l : Launch) (D : va_G) (cy : Nat → ClassId) (b base L : Nat) (xs : Nat → Int32) (n : Nat) : ∀ d, sm_Ms l D cy b base L xs d (sm_call L xs (d + 1) n)
  | 0 => sm_Ms_step l D cy b base L xs n 0 (Or.inr fun _ _ _ => rfl)
  | d + 1 => sm_Ms_step l D cy b base L xs n (d + 1) (Or.inl ⟨d, sm_Ms_ok l D cy b base L xs n d, Nat.le_refl _, Nat.le_refl _⟩)
