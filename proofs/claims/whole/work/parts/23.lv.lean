/-! fewer known locals are enough: at a loop's head the list of locals is put into one order -/
def lv_le (lv lv' : sm_L) : Prop := ∀ i v, sm_get lv i = some v → sm_get lv' i = some v
def lv_nd (lv : sm_L) : Prop := (lv.map (fun q => q.1)).Nodup
theorem lg_cons (k : Nat) (u : Value) (r : sm_L) (i : Nat) : sm_get ((k, u) :: r) i = if k = i then some u else sm_get r i := by
  show (bif Nat.beq k i then some u else sm_get r i) = _
  by_cases h : k = i
  · subst h
    rw [if_pos rfl, Nat.beq_refl]
    rfl
  · rw [if_neg h]
    cases hb : Nat.beq k i with
    | true => exact absurd (Nat.eq_of_beq_eq_true hb) h
    | false => rfl
theorem lg_notin : ∀ {lv : sm_L} {i : Nat}, i ∉ lv.map (fun q => q.1) → sm_get lv i = none
  | [], _, _ => rfl
  | (k, u) :: r, i, h => by
    rw [lg_cons]
    rw [List.map_cons, List.mem_cons, not_or] at h
    rw [if_neg (fun e => h.1 e.symm)]
    exact lg_notin h.2
theorem lg_filter (P : Nat × Value → Bool) : ∀ {lv : sm_L}, lv_nd lv → ∀ i, sm_get (lv.filter P) i = (match sm_get lv i with | some u => if P (i, u) = true then some u else none | none => none)
  | [], _, _ => rfl
  | (k, u) :: r, hn, i => by
    have hn2 : k ∉ r.map (fun q => q.1) ∧ (r.map (fun q => q.1)).Nodup := List.nodup_cons.mp hn
    have ih := lg_filter P (lv := r) hn2.2 i
    rw [List.filter_cons, lg_cons]
    by_cases hk : k = i
    · subst hk
      rw [if_pos rfl]
      dsimp only
      by_cases hp : P (k, u) = true
      · rw [if_pos hp, if_pos hp, lg_cons, if_pos rfl]
      · rw [if_neg hp, if_neg hp, ih, lg_notin hn2.1]
    · rw [if_neg hk]
      by_cases hp : P (k, u) = true
      · rw [if_pos hp, lg_cons, if_neg hk]
        exact ih
      · rw [if_neg hp]
        exact ih
theorem lv_nd_filter {P : Nat × Value → Bool} {lv : sm_L} (h : lv_nd lv) : lv_nd (lv.filter P) := by
  unfold lv_nd at *
  exact List.Sublist.nodup (List.Sublist.map _ List.filter_sublist) h
theorem lv_nd_put {lv : sm_L} (h : lv_nd lv) (i : Nat) (v : Value) : lv_nd (sm_put lv i v) := by
  unfold sm_put lv_nd
  rw [List.map_cons, List.nodup_cons]
  refine ⟨fun hm => ?_, lv_nd_filter h⟩
  obtain ⟨q, hq, he⟩ := List.mem_map.mp hm
  have := (List.mem_filter.mp hq).2
  simp at this
  exact this.1 he
theorem lv_nd_put2 {lv : sm_L} (h : lv_nd lv) (i : Nat) (v : Value) : lv_nd (sm_put2 lv i v) := by
  unfold sm_put2 lv_nd
  rw [List.map_cons, List.nodup_cons]
  refine ⟨fun hm => ?_, lv_nd_filter h⟩
  obtain ⟨q, hq, he⟩ := List.mem_map.mp hm
  have := (List.mem_filter.mp hq).2
  simp at this
  exact this.1 he
theorem lv_le_cons {P : Nat × Value → Bool} {lv lv' : sm_L} (h : lv_le lv lv') (h1 : lv_nd lv) (h2 : lv_nd lv') (i : Nat) (v : Value) : lv_le ((i, v) :: lv.filter P) ((i, v) :: lv'.filter P) := by
  intro j u hj
  rw [lg_cons] at hj ⊢
  by_cases hk : i = j
  · rw [if_pos hk] at hj ⊢
    exact hj
  · rw [if_neg hk] at hj ⊢
    rw [lg_filter P h1] at hj
    rw [lg_filter P h2]
    cases hg : sm_get lv j with
    | none => rw [hg] at hj; cases hj
    | some t =>
      rw [hg] at hj
      rw [h _ _ hg]
      exact hj
def sm_loc (i : sm_I) : Bool := match i with
  | .iload _ | .lload _ | .aload _ | .istore _ | .lstore _ | .astore _ | .iinc _ _ => true
  | _ => false
set_option maxHeartbeats 2000000 in
theorem sm_op_ind {L : Nat} {xs : Nat → Int32} {i : sm_I} (hi : sm_loc i = false) {lv lv1 lv' : sm_L} {st st1 : List Value} {w w1 : sm_W} (h : sm_op L xs i lv st w = some (lv1, st1, w1)) : lv1 = lv ∧ sm_op L xs i lv' st w = some (lv', st1, w1) := by
  cases i <;> first
    | (cases hi; done)
    | (simp only [sm_op] at h ⊢
       first
         | (cases h; done)
         | (cases h; exact ⟨rfl, rfl⟩)
         | (try simp only [cond_eq_ite] at h ⊢
            repeat' (split at h)
            all_goals first
              | (cases h; done)
              | (cases h; refine ⟨rfl, ?_⟩; simp_all; done)))
theorem sm_op_lle {L : Nat} {xs : Nat → Int32} {i : sm_I} {lv lv' lv1 : sm_L} {st st1 : List Value} {w w1 : sm_W} (h1 : lv_nd lv) (h2 : lv_nd lv') (hl : lv_le lv lv') (h : sm_op L xs i lv st w = some (lv1, st1, w1)) : ∃ lv2, sm_op L xs i lv' st w = some (lv2, st1, w1) ∧ lv_le lv1 lv2 ∧ lv_nd lv1 ∧ lv_nd lv2 := by
  cases hi : sm_loc i with
  | false =>
    obtain ⟨rfl, h3⟩ := sm_op_ind (lv' := lv') hi h
    exact ⟨lv', h3, hl, h1, h2⟩
  | true =>
    cases i <;> first | (cases hi; done) | skip
    all_goals simp only [sm_op] at h ⊢
    all_goals (split at h)
    all_goals first
      | (cases h; done)
      | (rename_i hg; cases h; rw [hl _ _ hg]; exact ⟨_, rfl, hl, h1, h2⟩)
      | (rename_i hg; cases h; rw [hl _ _ hg]; exact ⟨_, rfl, lv_le_cons hl h1 h2 _ _, lv_nd_put h1 _ _, lv_nd_put h2 _ _⟩)
      | (cases h; exact ⟨_, rfl, lv_le_cons hl h1 h2 _ _, lv_nd_put h1 _ _, lv_nd_put h2 _ _⟩)
      | (cases h; exact ⟨_, rfl, lv_le_cons hl h1 h2 _ _, lv_nd_put2 h1 _ _, lv_nd_put2 h2 _ _⟩)
def lv_jl (j : Nat → sm_L → List Value → sm_W → sm_O) : Prop := ∀ t lv lv' st w q, lv_nd lv → lv_nd lv' → lv_le lv lv' → j t lv st w = some q → j t lv' st w = some q
theorem sm_blk_lle {L : Nat} {xs : Nat → Int32} {f : Nat → List Value → sm_W → sm_O} {j : Nat → sm_L → List Value → sm_W → sm_O} (hj : lv_jl j) {bo : Bool} {cb : Nat} {q : Option Value × sm_W} :
    ∀ (is : List sm_I) (lv lv' : sm_L) (st : List Value) (w : sm_W), lv_nd lv → lv_nd lv' → lv_le lv lv' → sm_blk L xs f j bo cb is lv st w = some q → sm_blk L xs f j bo cb is lv' st w = some q
  | [], _, _, _, _, _, _, _, hq => by cases hq
  | i :: is, lv, lv', st, w, h1, h2, hl, hq => by
    have inv : ∀ (c n : Nat), (match sm_inv f c n st w with | some (st1, w1) => sm_blk L xs f j bo cb is lv st1 w1 | none => none) = some q → (match sm_inv f c n st w with | some (st1, w1) => sm_blk L xs f j bo cb is lv' st1 w1 | none => none) = some q := by
      intro c n g1
      cases g2 : sm_inv f c n st w with
      | none => rw [g2] at g1; cases g1
      | some v =>
        rw [g2] at g1
        exact sm_blk_lle hj is _ _ _ _ h1 h2 hl g1
    cases i with
    | goto t => exact hj _ _ _ _ _ _ h1 h2 hl hq
    | goto_w t => exact hj _ _ _ _ _ _ h1 h2 hl hq
    | ifCond cd t =>
      unfold sm_blk at hq ⊢
      dsimp only at hq ⊢
      split at hq
      · exact sm_br_le (hj _ _ _ _ _ _ h1 h2 hl) (hj _ _ _ _ _ _ h1 h2 hl) hq
      · cases hq
    | if_icmp cd t =>
      unfold sm_blk at hq ⊢
      dsimp only at hq ⊢
      split at hq
      · exact sm_br_le (hj _ _ _ _ _ _ h1 h2 hl) (hj _ _ _ _ _ _ h1 h2 hl) hq
      · cases hq
    | ifnull t =>
      unfold sm_blk at hq ⊢
      dsimp only at hq ⊢
      split at hq
      · exact hj _ _ _ _ _ _ h1 h2 hl hq
      · exact hj _ _ _ _ _ _ h1 h2 hl hq
      · cases hq
    | ifnonnull t =>
      unfold sm_blk at hq ⊢
      dsimp only at hq ⊢
      split at hq
      · exact hj _ _ _ _ _ _ h1 h2 hl hq
      · exact hj _ _ _ _ _ _ h1 h2 hl hq
      · cases hq
    | tableswitch dd lo hi offs =>
      unfold sm_blk at hq ⊢
      dsimp only at hq ⊢
      split at hq
      · split at hq
        · rename_i g1
          rw [if_pos g1]
          exact hj _ _ _ _ _ _ h1 h2 hl hq
        · rename_i g1
          rw [if_neg g1]
          split at hq
          · exact hj _ _ _ _ _ _ h1 h2 hl hq
          · cases hq
      · cases hq
    | ireturn => exact hq
    | lreturn => exact hq
    | areturn => exact hq
    | return_ => exact hq
    | invokestatic n => exact inv _ _ hq
    | invokespecial n => exact inv _ _ hq
    | invokevirtual n => exact inv _ _ hq
    | _ =>
      unfold sm_blk at hq ⊢
      dsimp only at hq ⊢
      split at hq
      · rename_i g1
        obtain ⟨lv2, g2, g3, g4, g5⟩ := sm_op_lle h1 h2 hl g1
        rw [g2]
        exact sm_blk_lle hj is _ _ _ _ g4 g5 g3 hq
      · cases hq
theorem sm_meth_lle {L : Nat} {xs : Nat → Int32} {f : Nat → List Value → sm_W → sm_O} {y : Nat} : ∀ n, lv_jl (sm_meth L xs f y n)
  | 0, _, _, _, _, _, _, _, _, _, h => by cases h
  | n + 1, _, _, _, _, _, _, h1, h2, hl, h => sm_blk_lle (sm_meth_lle n) _ _ _ _ _ h1 h2 hl h
theorem x_lv {L : Nat} {xs : Nat → Int32} {d y cb : Nat} {is : List sm_I} {lv lv' : sm_L} {st : List Value} {w : sm_W} {Q : Option Value → sm_W → Prop} (h1 : lv_nd lv) (h2 : lv_nd lv') (hl : lv_le lv lv') (h : sm_X L xs d y cb is lv st w Q) : sm_X L xs d y cb is lv' st w Q := by
  obtain ⟨n, k, r, w1, g1, g2⟩ := h
  exact ⟨n, k, r, w1, sm_blk_lle (sm_meth_lle k) _ _ _ _ _ h1 h2 hl g1, g2⟩
/-- by computing: each of the first is among the second -/
def lv_in (lv lv' : sm_L) : Prop := match lv with
  | [] => True
  | q :: r => sm_get lv' q.1 = some q.2 ∧ lv_in r lv'
theorem lv_in_le : ∀ {lv lv' : sm_L}, lv_in lv lv' → lv_le lv lv'
  | [], _, _, i, v, hg => by cases hg
  | (k, u) :: r, lv', h, i, v, hg => by
    rw [lg_cons] at hg
    split at hg
    · rename_i e
      subst e
      cases hg
      exact h.1
    · exact lv_in_le h.2 i v hg
theorem x_lvs {L : Nat} {xs : Nat → Int32} {d y cb : Nat} {is : List sm_I} {st : List Value} {w : sm_W} {Q : Option Value → sm_W → Prop} (lv : sm_L) {lv' : sm_L} {ks ks' : List Nat} (h1 : lv.map (fun q => q.1) = ks) (h2 : lv'.map (fun q => q.1) = ks') (h3 : (decide ks.Nodup && decide ks'.Nodup) = true) (hl : lv_in lv lv') (h : sm_X L xs d y cb is lv st w Q) : sm_X L xs d y cb is lv' st w Q := by
  simp only [Bool.and_eq_true, decide_eq_true_eq] at h3
  exact x_lv (by unfold lv_nd; rw [h1]; exact h3.1) (by unfold lv_nd; rw [h2]; exact h3.2) (lv_in_le hl) h
