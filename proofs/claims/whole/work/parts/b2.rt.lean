/-! what kind of value a method answers -/
def okR (k : Bool) (i : sm_I) : Bool := match i with
  | .ireturn => !k
  | .lreturn => k
  | .areturn => false
  | .return_ => false
  | _ => true
def isV (k : Bool) (r : Option Value) : Prop := if k = true then ∃ x, r = some (.long x) else ∃ x, r = some (.int x)
theorem br_rt {c : Jvm.ClassFile.Cond} {x y : Int32} {a b : sm_O} {q : Option Value × sm_W} (h : sm_br c x y a b = some q) : a = some q ∨ b = some q := by
  unfold sm_br at h
  cases c <;> (dsimp only at h; split at h) <;> first | exact Or.inl h | exact Or.inr h
section RT
variable {L : Nat} {xs : Nat → Int32}
theorem blk_rt {calls : Nat → List Value → sm_W → sm_O} {jump : Nat → sm_L → List Value → sm_W → sm_O} {bo : Bool} {cb : Nat} {k : Bool} {r : Option Value} {w1 : sm_W} (hj : ∀ t lv st w, jump t lv st w = some (r, w1) → isV k r) : ∀ (is : List sm_I) (lv : sm_L) (st : List Value) (w : sm_W), is.all (okR k) = true → sm_blk L xs calls jump bo cb is lv st w = some (r, w1) → isV k r
  | [], _, _, _, _, h => by cases h
  | i :: is, lv, st, w, ho, h => by
    rw [List.all_cons, Bool.and_eq_true] at ho
    obtain ⟨o1, o2⟩ := ho
    have inv : ∀ (c n : Nat), (match sm_inv calls c n st w with | some (st1, w1) => sm_blk L xs calls jump bo cb is lv st1 w1 | none => none) = some (r, w1) → isV k r := by
      intro c n h1
      cases h2 : sm_inv calls c n st w with
      | none => rw [h2] at h1; cases h1
      | some v =>
        rw [h2] at h1
        exact blk_rt hj is _ _ _ o2 h1
    have op : (match sm_op L xs i lv st w with | some (lv1, st1, w1) => sm_blk L xs calls jump bo cb is lv1 st1 w1 | none => none) = some (r, w1) → isV k r := by
      intro h1
      cases h2 : sm_op L xs i lv st w with
      | none => rw [h2] at h1; cases h1
      | some v =>
        rw [h2] at h1
        exact blk_rt hj is _ _ _ o2 h1
    cases i with
    | goto t => exact hj _ _ _ _ h
    | goto_w t => exact hj _ _ _ _ h
    | ifCond cd t =>
      unfold sm_blk at h
      dsimp only at h
      split at h
      · rcases br_rt h with h | h
        · exact hj _ _ _ _ h
        · exact hj _ _ _ _ h
      · cases h
    | if_icmp cd t =>
      unfold sm_blk at h
      dsimp only at h
      split at h
      · rcases br_rt h with h | h
        · exact hj _ _ _ _ h
        · exact hj _ _ _ _ h
      · cases h
    | ifnull t =>
      unfold sm_blk at h
      dsimp only at h
      split at h
      · exact hj _ _ _ _ h
      · exact hj _ _ _ _ h
      · cases h
    | ifnonnull t =>
      unfold sm_blk at h
      dsimp only at h
      split at h
      · exact hj _ _ _ _ h
      · exact hj _ _ _ _ h
      · cases h
    | tableswitch dd lo hi offs =>
      unfold sm_blk at h
      dsimp only at h
      split at h
      · split at h
        · exact hj _ _ _ _ h
        · split at h
          · exact hj _ _ _ _ h
          · cases h
      · cases h
    | ireturn =>
      unfold sm_blk at h
      dsimp only at h
      split at h
      · rename_i x
        split at h
        · cases h
        · injection h with h
          injection h with h _
          cases k with
          | true => cases o1
          | false => exact ⟨x, h.symm⟩
      · cases h
    | lreturn =>
      unfold sm_blk at h
      dsimp only at h
      split at h
      · rename_i x
        injection h with h
        injection h with h _
        cases k with
        | true => exact ⟨x, h.symm⟩
        | false => cases o1
      · cases h
    | areturn => cases o1
    | return_ => cases o1
    | invokestatic n => exact inv 0 n h
    | invokespecial n => exact inv 1 n h
    | invokevirtual n => exact inv 2 n h
    | _ => exact op h
def okY (k : Bool) (y : Nat) : Bool := match sm_prog[y]? with | some q => q.2.all (fun is => is.all (okR k)) | none => true
theorem okY_c {k : Bool} {y : Nat} (h : okY k y = true) (b : Nat) : (sm_code y b).all (okR k) = true := by
  unfold okY at h
  unfold sm_code
  cases hp : sm_prog[y]? with
  | none => rfl
  | some q =>
    rw [hp] at h
    dsimp only at h ⊢
    cases hb : q.2[b]? with
    | none => rfl
    | some is => exact List.all_eq_true.mp h is (List.mem_of_getElem? hb)
theorem meth_rt {calls : Nat → List Value → sm_W → sm_O} {y : Nat} {k : Bool} (hy : okY k y = true) {r : Option Value} {w1 : sm_W} : ∀ n b lv st w, sm_meth L xs calls y n b lv st w = some (r, w1) → isV k r
  | 0, _, _, _, _, h => by cases h
  | n + 1, b, lv, st, w, h => blk_rt (fun t lv st w g => meth_rt hy n t lv st w g) (sm_code y b) lv st w (okY_c hy b) h
theorem call_rt {d n y : Nat} {k : Bool} {as : List Value} {w w1 : sm_W} {r : Option Value} (hy : okY k y = true) (h4 : (Nat.beq y 400 || Nat.beq y 401) = false) (h : sm_call L xs d n y as w = some (r, w1)) : isV k r := by
  cases d with
  | zero => cases h
  | succ d =>
    unfold sm_call at h
    rw [Bool.or_eq_false_iff] at h4
    rw [h4.1, h4.2] at h
    simp only [cond_false] at h
    cases hb : Nat.ble (sm_words as) (sm_nLs.getD y 0) with
    | false => rw [hb] at h; cases h
    | true =>
      rw [hb] at h
      exact meth_rt hy _ _ _ _ _ h
/-- a pair whose answer is an int -/
theorem pr_I {t y1 y2 : Nat} {dy : List sh_T} {M : mm_T} {as : List Value} {d : Nat} (hd : 100 ≤ d) (hy : okY false y1 = true) (h4 : (Nat.beq y1 400 || Nat.beq y1 401) = false) (h : pr L xs t dy M y1 y2 as) : sm_E L xs d y1 (.ref 0 :: as) (wm (sh0 ++ dy) M) (fun r w => ∃ x dy1 M1, r = some (.int x) ∧ w = wm (sh0 ++ dy1) M1 ∧ sm_E L xs d y2 (.ref 65 :: as) (wm (sh0 ++ dy1) M1) (fun r w => r = some (.int x) ∧ ∃ M2, w = wm (sh0 ++ dy1) M2 ∧ rR (t + 1) dy1 M2)) := by
  refine e_up hd ?_
  obtain ⟨n, r, w1, e, v, dy1, M1, rfl, rfl, h2⟩ := h
  obtain ⟨x, hx⟩ := call_rt hy h4 e
  injection hx with hx
  subst hx
  exact ⟨n, _, _, e, x, dy1, M1, rfl, rfl, e_up hd h2⟩
theorem pr_L {t y1 y2 : Nat} {dy : List sh_T} {M : mm_T} {as : List Value} {d : Nat} (hd : 100 ≤ d) (hy : okY true y1 = true) (h4 : (Nat.beq y1 400 || Nat.beq y1 401) = false) (h : pr L xs t dy M y1 y2 as) : sm_E L xs d y1 (.ref 0 :: as) (wm (sh0 ++ dy) M) (fun r w => ∃ x dy1 M1, r = some (.long x) ∧ w = wm (sh0 ++ dy1) M1 ∧ sm_E L xs d y2 (.ref 65 :: as) (wm (sh0 ++ dy1) M1) (fun r w => r = some (.long x) ∧ ∃ M2, w = wm (sh0 ++ dy1) M2 ∧ rR (t + 1) dy1 M2)) := by
  refine e_up hd ?_
  obtain ⟨n, r, w1, e, v, dy1, M1, rfl, rfl, h2⟩ := h
  obtain ⟨x, hx⟩ := call_rt hy h4 e
  injection hx with hx
  subst hx
  exact ⟨n, _, _, e, x, dy1, M1, rfl, rfl, e_up hd h2⟩
end RT
