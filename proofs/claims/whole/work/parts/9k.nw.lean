/-! new objects: cells behind the shapes that are there -/
def shC (e : va_E) : sh_T := fun _ _ _ => e
theorem n_at {dy tl : List sh_T} {A j : Nat} {s : sh_T} (hA : 114 + dy.length = A) (h : tl[j]? = some s) : (sh0 ++ (dy ++ tl))[A + j]? = some s := by
  subst hA
  rw [List.getElem?_append_right (by rw [sh0_len]; omega), List.getElem?_append_right (by rw [sh0_len]; omega), sh0_len, show 114 + dy.length + j - 114 - dy.length = j by omega]
  exact h
theorem n_set {dy tl : List sh_T} {A j : Nat} {s : sh_T} (hA : 114 + dy.length = A) : (sh0 ++ (dy ++ tl)).set (A + j) s = sh0 ++ (dy ++ tl.set j s) := by
  subst hA
  rw [List.set_append_right _ _ (by rw [sh0_len]; omega), List.set_append_right _ _ (by rw [sh0_len]; omega), sh0_len, show 114 + dy.length + j - 114 - dy.length = j by omega]
theorem wm_len (sh : List sh_T) (M : mm_T) : (wm sh M).length = sh.length := by unfold wm; rw [List.length_mapIdx]
theorem wm_setC {sh : List sh_T} {M : mm_T} {a : Nat} {e : va_E} : (wm sh M).set a e = wm (sh.set a (shC e)) M := by
  apply List.ext_getElem?
  intro j
  simp only [wm, List.getElem?_set, List.getElem?_mapIdx, List.length_mapIdx]
  by_cases hj : a = j
  · subst hj
    by_cases hl : a < sh.length
    · simp [hl, shC]
    · simp [hl]
  · simp only [hj, if_false]
theorem wm_app (sh : List sh_T) (M : mm_T) (e : va_E) : wm sh M ++ [e] = wm (sh ++ [shC e]) M := by
  unfold wm
  rw [List.mapIdx_append]
  rfl
/-- the same cells, told by other shapes -/
theorem wm_tail {sh tl tl' : List sh_T} {M M' : mm_T} (hl : tl.length = tl'.length) (h1 : ∀ a, a < sh.length → M'.1 a = M.1 a ∧ M'.2.1 a = M.2.1 a ∧ M'.2.2 a = M.2.2 a) (h2 : ∀ (j : Nat) (s s' : sh_T), tl[j]? = some s → tl'[j]? = some s' → s (M.1 (sh.length + j)) (M.2.1 (sh.length + j)) (M.2.2 (sh.length + j)) = s' (M'.1 (sh.length + j)) (M'.2.1 (sh.length + j)) (M'.2.2 (sh.length + j))) : wm (sh ++ tl) M = wm (sh ++ tl') M' := by
  apply List.ext_getElem?
  intro j
  unfold wm
  rw [List.getElem?_mapIdx, List.getElem?_mapIdx]
  by_cases hj : j < sh.length
  · rw [List.getElem?_append_left hj, List.getElem?_append_left hj, (h1 j hj).1, (h1 j hj).2.1, (h1 j hj).2.2]
  · rw [List.getElem?_append_right (by omega), List.getElem?_append_right (by omega)]
    obtain ⟨i, rfl⟩ : ∃ i, j = sh.length + i := ⟨j - sh.length, by omega⟩
    rw [show sh.length + i - sh.length = i by omega]
    by_cases hi : i < tl.length
    · have e1 := List.getElem?_eq_getElem hi
      have e2 := List.getElem?_eq_getElem (show i < tl'.length by omega)
      rw [e1, e2]
      exact congrArg some (h2 i _ _ e1 e2)
    · rw [List.getElem?_eq_none (by omega), List.getElem?_eq_none (by omega)]
      rfl
section NW
variable {L : Nat} {xs : Nat → Int32} {d y cb : Nat} {is : List sm_I} {lv : sm_L} {st : List Value} {dy tl : List sh_T} {M : mm_T} {Q : Option Value → sm_W → Prop} {A : Nat}
theorem n_put {j k : Nat} {tl' : List sh_T} {e e' : va_E} {v : Value} (hA : 114 + dy.length = A) (hj : tl[j]? = some (shC e)) (hv : m_pf e k v = some e') (ht : tl.set j (shC e') = tl') (h : sm_X L xs d y cb is lv st (wm (sh0 ++ (dy ++ tl')) M) Q) : sm_X L xs d y cb (.putfield k :: is) lv (v :: .ref (A + j) :: st) (wm (sh0 ++ (dy ++ tl)) M) Q := by
  subst ht
  refine x_op ?_ h
  simp only [sm_op, sm_pf, wm_get (n_at hA hj)]
  rw [← n_set hA, ← wm_setC]
  unfold m_pf at hv
  unfold shC
  split at hv
  · rename_i ci fs
    dsimp only
    rw [cond_eq_ite] at hv ⊢
    split at hv
    · rename_i h2
      rw [if_pos h2, ← Option.some.inj hv]
    · cases hv
  · cases hv
theorem n_get {j k : Nat} {e : va_E} {v : Value} (hA : 114 + dy.length = A) (hj : tl[j]? = some (shC e)) (hv : m_fd e k = some v) (h : sm_X L xs d y cb is lv (v :: st) (wm (sh0 ++ (dy ++ tl)) M) Q) : sm_X L xs d y cb (.getfield k :: is) lv (.ref (A + j) :: st) (wm (sh0 ++ (dy ++ tl)) M) Q := m_get (n_at hA hj) hv h
theorem n_new0 {ci : Nat} {fs : List Value} (hA : 114 + dy.length = A) (hd : sm_dflt[ci]? = some fs) (h : sm_X L xs d y cb is lv (.ref (A + 0) :: st) (wm (sh0 ++ (dy ++ [shC (.inr (ci, fs))])) M) Q) : sm_X L xs d y cb (.new ci :: is) lv st (wm (sh0 ++ dy) M) Q := by
  subst hA
  refine x_op ?_ h
  simp only [sm_op, hd, wm_len, List.length_append, sh0_len]
  rw [wm_app, List.append_assoc]
  rfl
theorem n_arrL {n : Int32} {m j : Nat} (hA : 114 + dy.length = A) (hj : tl.length = j) (hn : ¬ (n < 0 ∨ 100000 ≤ n)) (hm : n.toNatClampNeg = m) (h : sm_X L xs d y cb is lv (.ref (A + j) :: st) (wm (sh0 ++ (dy ++ (tl ++ [shC (.inl (1, m, .inr (.inl (fun _ => 0))))]))) M) Q) : sm_X L xs d y cb (.newarray .long :: is) lv (.int n :: st) (wm (sh0 ++ (dy ++ tl)) M) Q := by
  subst hA hj hm
  refine x_op ?_ h
  simp only [sm_op]
  rw [if_neg hn]
  simp only [wm_len, List.length_append, sh0_len]
  rw [wm_app, List.append_assoc, List.append_assoc, Nat.add_assoc]
theorem n_arrI {n : Int32} {m j : Nat} (hA : 114 + dy.length = A) (hj : tl.length = j) (hn : ¬ (n < 0 ∨ 100000 ≤ n)) (hm : n.toNatClampNeg = m) (h : sm_X L xs d y cb is lv (.ref (A + j) :: st) (wm (sh0 ++ (dy ++ (tl ++ [shC (.inl (0, m, .inl (fun _ => 0)))]))) M) Q) : sm_X L xs d y cb (.newarray .int :: is) lv (.int n :: st) (wm (sh0 ++ (dy ++ tl)) M) Q := by
  subst hA hj hm
  refine x_op ?_ h
  simp only [sm_op]
  rw [if_neg hn]
  simp only [wm_len, List.length_append, sh0_len]
  rw [wm_app, List.append_assoc, List.append_assoc, Nat.add_assoc]
theorem e_obj {w : sm_W} {a : Nat} (hq : Q none w) : sm_E L xs (d + 1) 401 [.ref a] w Q := ⟨0, none, w, rfl, hq⟩
/-- the common constructor of lists -/
theorem c_wlI {e e1 e2 : va_E} {k : Int32} (hA : 114 + dy.length = A) (hsb : m_sb e 102865 = true) (h1 : m_pf e 6144 (.int k) = some e1) (h2 : m_pf e1 6151 (.ref 1) = some e2) (hq : Q none (wm (sh0 ++ (dy ++ [shC e2])) M)) : sm_E L xs (d + 2) 33 [.ref (A + 0), .int k, .ref 1] (wm (sh0 ++ (dy ++ [shC e])) M) Q := by
  refine e_intro rfl rfl ?_
  refine x_opp rfl rfl ?_
  refine m_callP (n_at hA rfl) hsb rfl rfl (e_obj ?_)
  refine x_opp rfl rfl ?_
  refine x_opp rfl rfl ?_
  refine n_put hA rfl h1 rfl ?_
  refine x_opp rfl rfl ?_
  refine x_opp rfl rfl ?_
  refine n_put hA rfl h2 rfl ?_
  refine a_ret rfl rfl ?_
  exact hq
/-- the constructor of plain lists -/
theorem c_plI {e e1 e2 e3 : va_E} {k : Int32} (hA : 114 + dy.length = A) (hsb : m_sb e 102865 = true) (hsb2 : m_sb e 8643 = true) (h1 : m_pf e 6144 (.int k) = some e1) (h2 : m_pf e1 6151 (.ref 1) = some e2) (h3 : m_pf e2 3595 (.ref (A + 1)) = some e3) (hq : Q none (wm (sh0 ++ (dy ++ [shC e3, shC (.inl (1, 40, .inr (.inl (fun _ => 0))))])) M)) : sm_E L xs (d + 3) 32 [.ref (A + 0), .int k, .ref 1] (wm (sh0 ++ (dy ++ [shC e])) M) Q := by
  refine e_intro rfl rfl ?_
  iterate 3 (refine x_opp rfl rfl ?_)
  refine m_callP (n_at hA rfl) hsb2 rfl rfl (c_wlI hA hsb h1 h2 ?_)
  refine x_opp rfl rfl ?_
  refine x_kcg rfl ?_
  refine n_arrL hA rfl (by decide) rfl ?_
  refine n_put (j := 0) hA rfl h3 rfl ?_
  refine a_ret rfl rfl ?_
  exact hq
end NW
