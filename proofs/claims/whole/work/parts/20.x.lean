/-! runs of the small machine, goal first -/
section XR
variable {L : Nat} {xs : Nat → Int32}
def sm_le (f g : Nat → List Value → sm_W → sm_O) : Prop := ∀ y as w q, f y as w = some q → g y as w = some q
def sm_lj (f g : Nat → sm_L → List Value → sm_W → sm_O) : Prop := ∀ t lv st w q, f t lv st w = some q → g t lv st w = some q
theorem sm_inv_le {f g : Nat → List Value → sm_W → sm_O} (h : sm_le f g) {k n : Nat} {st : List Value} {w : sm_W} {q : List Value × sm_W} (hq : sm_inv f k n st w = some q) : sm_inv g k n st w = some q := by
  unfold sm_inv at hq ⊢
  cases hb : (Nat.ble (n % 16) st.length && Nat.ble (sm_words (st.drop (n % 16))) 8) with
  | false => rw [hb] at hq; cases hq
  | true =>
    rw [hb] at hq
    simp only [cond_true] at hq ⊢
    cases ht : sm_tg k n (st.take (n % 16)).reverse w with
    | none => rw [ht] at hq; cases hq
    | some y =>
      rw [ht] at hq
      dsimp only at hq ⊢
      cases hc : f y (st.take (n % 16)).reverse w with
      | none => rw [hc] at hq; cases hq
      | some v => rw [hc] at hq; rw [h _ _ _ _ hc]; exact hq
theorem sm_br_le {cd : Jvm.ClassFile.Cond} {x y : Int32} {a b a' b' : sm_O} {q : Option Value × sm_W} (h1 : a = some q → a' = some q) (h2 : b = some q → b' = some q) (h : sm_br cd x y a b = some q) : sm_br cd x y a' b' = some q := by
  unfold sm_br at h ⊢
  cases cd <;> (dsimp only at h ⊢; split at h) <;> first | (rename_i hc; rw [if_pos hc]; first | exact h1 h | exact h2 h) | (rename_i hc; rw [if_neg hc]; first | exact h1 h | exact h2 h)
theorem sm_blk_le {f g : Nat → List Value → sm_W → sm_O} {j k : Nat → sm_L → List Value → sm_W → sm_O} (h : sm_le f g) (hj : sm_lj j k) {bo : Bool} {cb : Nat} {q : Option Value × sm_W} :
    ∀ (is : List sm_I) (lv : sm_L) (st : List Value) (w : sm_W), sm_blk L xs f j bo cb is lv st w = some q → sm_blk L xs g k bo cb is lv st w = some q
  | [], _, _, _, hq => by cases hq
  | i :: is, lv, st, w, hq => by
    have inv : ∀ (c n : Nat), (match sm_inv f c n st w with | some (st1, w1) => sm_blk L xs f j bo cb is lv st1 w1 | none => none) = some q → (match sm_inv g c n st w with | some (st1, w1) => sm_blk L xs g k bo cb is lv st1 w1 | none => none) = some q := by
      intro c n h1
      cases h2 : sm_inv f c n st w with
      | none => rw [h2] at h1; cases h1
      | some v =>
        rw [h2] at h1
        rw [sm_inv_le h h2]
        exact sm_blk_le h hj is _ _ _ h1
    cases i with
    | goto t => exact hj _ _ _ _ _ hq
    | goto_w t => exact hj _ _ _ _ _ hq
    | ifCond cd t =>
      unfold sm_blk at hq ⊢
      dsimp only at hq ⊢
      split at hq
      · exact sm_br_le (hj _ _ _ _ _) (hj _ _ _ _ _) hq
      · cases hq
    | if_icmp cd t =>
      unfold sm_blk at hq ⊢
      dsimp only at hq ⊢
      split at hq
      · exact sm_br_le (hj _ _ _ _ _) (hj _ _ _ _ _) hq
      · cases hq
    | ifnull t =>
      unfold sm_blk at hq ⊢
      dsimp only at hq ⊢
      split at hq
      · exact hj _ _ _ _ _ hq
      · exact hj _ _ _ _ _ hq
      · cases hq
    | ifnonnull t =>
      unfold sm_blk at hq ⊢
      dsimp only at hq ⊢
      split at hq
      · exact hj _ _ _ _ _ hq
      · exact hj _ _ _ _ _ hq
      · cases hq
    | tableswitch dd lo hi offs =>
      unfold sm_blk at hq ⊢
      dsimp only at hq ⊢
      split at hq
      · split at hq
        · rename_i h1
          rw [if_pos h1]
          exact hj _ _ _ _ _ hq
        · rename_i h1
          rw [if_neg h1]
          split at hq
          · exact hj _ _ _ _ _ hq
          · cases hq
      · cases hq
    | ireturn => exact hq
    | lreturn => exact hq
    | areturn => exact hq
    | return_ => exact hq
    | invokestatic n => exact inv _ _ hq
    | invokespecial n => exact inv _ _ hq
    | invokevirtual n => exact inv _ _ hq
    | _ =>
      unfold sm_blk at hq ⊢
      dsimp only at hq ⊢
      split at hq
      · exact sm_blk_le h hj is _ _ _ hq
      · cases hq
theorem sm_meth_le {f g : Nat → List Value → sm_W → sm_O} (h : sm_le f g) {y : Nat} : ∀ {n n' : Nat}, n ≤ n' → sm_lj (sm_meth L xs f y n) (sm_meth L xs g y n')
  | 0, _, _, _, _, _, _, _, hq => by cases hq
  | n + 1, 0, hn, _, _, _, _, _, _ => by omega
  | n + 1, n' + 1, hn, t, lv, st, w, q, hq => sm_blk_le h (sm_meth_le h (Nat.le_of_succ_le_succ hn)) _ _ _ _ hq
theorem sm_call_le : ∀ {d n n' : Nat}, n ≤ n' → sm_le (sm_call L xs d n) (sm_call L xs d n')
  | 0, _, _, _, _, _, _, _, h => by cases h
  | d + 1, n, n', hn, y, as, w, q, h => by
    unfold sm_call at h ⊢
    cases h1 : Nat.beq y 400 with
    | true => rw [h1] at h; exact h
    | false =>
      rw [h1] at h
      cases h2 : Nat.beq y 401 with
      | true => rw [h2] at h; exact h
      | false =>
        rw [h2] at h
        cases h3 : Nat.ble (sm_words as) (sm_nLs.getD y 0) with
        | false => rw [h3] at h; cases h
        | true =>
          rw [h3] at h
          exact sm_meth_le (sm_call_le hn) hn _ _ _ _ _ h
theorem sm_call_up : ∀ {d n : Nat}, sm_le (sm_call L xs d n) (sm_call L xs (d + 1) n)
  | 0, _, _, _, _, _, h => by cases h
  | d + 1, n, y, as, w, q, h => by
    unfold sm_call at h
    show sm_call L xs (d + 1 + 1) n y as w = some q
    unfold sm_call
    cases h1 : Nat.beq y 400 with
    | true => rw [h1] at h; exact h
    | false =>
      rw [h1] at h
      cases h2 : Nat.beq y 401 with
      | true => rw [h2] at h; exact h
      | false =>
        rw [h2] at h
        cases h3 : Nat.ble (sm_words as) (sm_nLs.getD y 0) with
        | false => rw [h3] at h; cases h
        | true =>
          rw [h3] at h
          exact sm_meth_le sm_call_up (Nat.le_refl _) _ _ _ _ _ h
theorem sm_call_ups {d d' n : Nat} (h : d ≤ d') : sm_le (sm_call L xs d n) (sm_call L xs d' n) := by
  induction h with
  | refl => exact fun _ _ _ _ h => h
  | step _ ih => exact fun y as w q h => sm_call_up _ _ _ _ (ih _ _ _ _ h)
end XR
/-- from here method y comes to its end, with Q -/
def sm_X (L : Nat) (xs : Nat → Int32) (d y cb : Nat) (is : List sm_I) (lv : sm_L) (st : List Value) (w : sm_W) (Q : Option Value → sm_W → Prop) : Prop :=
  ∃ (n k : Nat) (r : Option Value) (w1 : sm_W), sm_blk L xs (sm_call L xs d n) (sm_meth L xs (sm_call L xs d n) y k) (sm_bo y) cb is lv st w = some (r, w1) ∧ Q r w1
/-- a call of y comes to its end, with Q -/
def sm_E (L : Nat) (xs : Nat → Int32) (d y : Nat) (as : List Value) (w : sm_W) (Q : Option Value → sm_W → Prop) : Prop := ∃ (n : Nat) (r : Option Value) (w1 : sm_W), sm_call L xs d n y as w = some (r, w1) ∧ Q r w1
section XR2
variable {L : Nat} {xs : Nat → Int32} {d y cb : Nat} {is : List sm_I} {lv lv' : sm_L} {st st' : List Value} {w w' : sm_W} {Q Q' : Option Value → sm_W → Prop}
theorem x_mono (h : sm_X L xs d y cb is lv st w Q) (hq : ∀ r w, Q r w → Q' r w) : sm_X L xs d y cb is lv st w Q' := by
  obtain ⟨n, k, r, w1, h1, h2⟩ := h
  exact ⟨n, k, r, w1, h1, hq _ _ h2⟩
theorem e_mono {as : List Value} (h : sm_E L xs d y as w Q) (hq : ∀ r w, Q r w → Q' r w) : sm_E L xs d y as w Q' := by
  obtain ⟨n, r, w1, h1, h2⟩ := h
  exact ⟨n, r, w1, h1, hq _ _ h2⟩
theorem e_up {d' : Nat} {as : List Value} (hd : d ≤ d') (h : sm_E L xs d y as w Q) : sm_E L xs d' y as w Q := by
  obtain ⟨n, r, w1, h1, h2⟩ := h
  exact ⟨n, r, w1, sm_call_ups hd _ _ _ _ h1, h2⟩
theorem e_intro {as : List Value} (hy : (Nat.beq y 400 || Nat.beq y 401) = false) (hw : Nat.ble (sm_words as) (sm_nLs.getD y 0) = true) (h : sm_X L xs d y 0 (sm_code y 0) (lv_args 0 as) [] w Q) : sm_E L xs (d + 1) y as w Q := by
  obtain ⟨n, k, r, w1, h1, h2⟩ := h
  refine ⟨max n (k + 1), r, w1, ?_, h2⟩
  unfold sm_call
  rw [Bool.or_eq_false_iff] at hy
  rw [hy.1, hy.2, hw]
  have h3 : sm_meth L xs (sm_call L xs d n) y (k + 1) 0 (lv_args 0 as) [] w = some (r, w1) := h1
  exact sm_meth_le (sm_call_le (Nat.le_max_left n (k + 1))) (Nat.le_max_right n (k + 1)) _ _ _ _ _ h3
theorem x_op {i : sm_I} (ho : sm_op L xs i lv st w = some (lv', st', w')) (h : sm_X L xs d y cb is lv' st' w' Q) : sm_X L xs d y cb (i :: is) lv st w Q := by
  obtain ⟨n, k, r, w1, h1, h2⟩ := h
  refine ⟨n, k, r, w1, ?_, h2⟩
  have hne := sm_op_ne ho
  unfold sm_blk
  cases i <;> first
    | (dsimp only; rw [ho]; exact h1)
    | (cases hne; done)
    | (simp only [sm_op] at ho; cases ho; done)
theorem x_jump {t : Nat} (h : sm_X L xs d y t (sm_code y t) lv st w Q) : ∃ (n k : Nat) (r : Option Value) (w1 : sm_W), sm_meth L xs (sm_call L xs d n) y k t lv st w = some (r, w1) ∧ Q r w1 := by
  obtain ⟨n, k, r, w1, h1, h2⟩ := h
  exact ⟨n, k + 1, r, w1, h1, h2⟩
theorem x_goto {t : Int} (h : sm_X L xs d y t.toNat (sm_code y t.toNat) lv st w Q) : sm_X L xs d y cb (.goto t :: is) lv st w Q := by
  obtain ⟨n, k, r, w1, h1, h2⟩ := x_jump h
  exact ⟨n, k, r, w1, h1, h2⟩
theorem x_fall {t : Int} (h : sm_X L xs d y t.toNat (sm_code y t.toNat) lv st w Q) : sm_X L xs d y cb (.goto_w t :: is) lv st w Q := by
  obtain ⟨n, k, r, w1, h1, h2⟩ := x_jump h
  exact ⟨n, k, r, w1, h1, h2⟩
theorem x_br {cd : Jvm.ClassFile.Cond} {t : Int} {x z : Int32} {P : Prop} (hP : ∀ a b : sm_O, (P → sm_br cd x z a b = a) ∧ (¬ P → sm_br cd x z a b = b)) (h1 : P → sm_X L xs d y t.toNat (sm_code y t.toNat) lv st w Q) (h2 : ¬ P → sm_X L xs d y (cb + 1) (sm_code y (cb + 1)) lv st w Q) :
    ∃ (n k : Nat) (r : Option Value) (w1 : sm_W), sm_br cd x z (sm_meth L xs (sm_call L xs d n) y k t.toNat lv st w) (sm_meth L xs (sm_call L xs d n) y k (cb + 1) lv st w) = some (r, w1) ∧ Q r w1 := by
  by_cases h : P
  · obtain ⟨n, k, r, w1, g1, g2⟩ := x_jump (h1 h)
    exact ⟨n, k, r, w1, by rw [(hP _ _).1 h]; exact g1, g2⟩
  · obtain ⟨n, k, r, w1, g1, g2⟩ := x_jump (h2 h)
    exact ⟨n, k, r, w1, by rw [(hP _ _).2 h]; exact g1, g2⟩
theorem x_ifc {cd : Jvm.ClassFile.Cond} {t : Int} {x : Int32} {P : Prop} (hP : ∀ a b : sm_O, (P → sm_br cd x 0 a b = a) ∧ (¬ P → sm_br cd x 0 a b = b)) (h1 : P → sm_X L xs d y t.toNat (sm_code y t.toNat) lv st w Q) (h2 : ¬ P → sm_X L xs d y (cb + 1) (sm_code y (cb + 1)) lv st w Q) : sm_X L xs d y cb (.ifCond cd t :: is) lv (.int x :: st) w Q := by
  obtain ⟨n, k, r, w1, g1, g2⟩ := x_br hP h1 h2
  exact ⟨n, k, r, w1, g1, g2⟩
theorem x_icm {cd : Jvm.ClassFile.Cond} {t : Int} {x z : Int32} {P : Prop} (hP : ∀ a b : sm_O, (P → sm_br cd x z a b = a) ∧ (¬ P → sm_br cd x z a b = b)) (h1 : P → sm_X L xs d y t.toNat (sm_code y t.toNat) lv st w Q) (h2 : ¬ P → sm_X L xs d y (cb + 1) (sm_code y (cb + 1)) lv st w Q) : sm_X L xs d y cb (.if_icmp cd t :: is) lv (.int z :: .int x :: st) w Q := by
  obtain ⟨n, k, r, w1, g1, g2⟩ := x_br hP h1 h2
  exact ⟨n, k, r, w1, g1, g2⟩
theorem br_eq {x z : Int32} (a b : sm_O) : (x = z → sm_br .eq x z a b = a) ∧ (¬ x = z → sm_br .eq x z a b = b) := ⟨fun h => if_pos h, fun h => if_neg h⟩
theorem br_ne {x z : Int32} (a b : sm_O) : (x ≠ z → sm_br .ne x z a b = a) ∧ (¬ x ≠ z → sm_br .ne x z a b = b) := ⟨fun h => if_neg h, fun h => if_pos (Decidable.not_not.mp h)⟩
theorem br_lt {x z : Int32} (a b : sm_O) : (x < z → sm_br .lt x z a b = a) ∧ (¬ x < z → sm_br .lt x z a b = b) := ⟨fun h => if_pos h, fun h => if_neg h⟩
theorem br_ge {x z : Int32} (a b : sm_O) : (z ≤ x → sm_br .ge x z a b = a) ∧ (¬ z ≤ x → sm_br .ge x z a b = b) := ⟨fun h => if_pos h, fun h => if_neg h⟩
theorem br_gt {x z : Int32} (a b : sm_O) : (z < x → sm_br .gt x z a b = a) ∧ (¬ z < x → sm_br .gt x z a b = b) := ⟨fun h => if_pos h, fun h => if_neg h⟩
theorem br_le {x z : Int32} (a b : sm_O) : (x ≤ z → sm_br .le x z a b = a) ∧ (¬ x ≤ z → sm_br .le x z a b = b) := ⟨fun h => if_pos h, fun h => if_neg h⟩
theorem x_ifnullN {t : Int} (h : sm_X L xs d y t.toNat (sm_code y t.toNat) lv st w Q) : sm_X L xs d y cb (.ifnull t :: is) lv (.null :: st) w Q := by
  obtain ⟨n, k, r, w1, h1, h2⟩ := x_jump h
  exact ⟨n, k, r, w1, h1, h2⟩
theorem x_ifnullR {t : Int} {a : Nat} (h : sm_X L xs d y (cb + 1) (sm_code y (cb + 1)) lv st w Q) : sm_X L xs d y cb (.ifnull t :: is) lv (.ref a :: st) w Q := by
  obtain ⟨n, k, r, w1, h1, h2⟩ := x_jump h
  exact ⟨n, k, r, w1, h1, h2⟩
theorem x_ifnonN {t : Int} (h : sm_X L xs d y (cb + 1) (sm_code y (cb + 1)) lv st w Q) : sm_X L xs d y cb (.ifnonnull t :: is) lv (.null :: st) w Q := by
  obtain ⟨n, k, r, w1, h1, h2⟩ := x_jump h
  exact ⟨n, k, r, w1, h1, h2⟩
theorem x_ifnonR {t : Int} {a : Nat} (h : sm_X L xs d y t.toNat (sm_code y t.toNat) lv st w Q) : sm_X L xs d y cb (.ifnonnull t :: is) lv (.ref a :: st) w Q := by
  obtain ⟨n, k, r, w1, h1, h2⟩ := x_jump h
  exact ⟨n, k, r, w1, h1, h2⟩
theorem x_tabIn {dd lo hi t : Int} {offs : Array Int} {x : Int32} (h1 : ¬ (x.toInt < lo ∨ hi < x.toInt)) (h2 : offs[(x.toInt - lo).toNat]? = some t) (h : sm_X L xs d y t.toNat (sm_code y t.toNat) lv st w Q) : sm_X L xs d y cb (.tableswitch dd lo hi offs :: is) lv (.int x :: st) w Q := by
  obtain ⟨n, k, r, w1, g1, g2⟩ := x_jump h
  refine ⟨n, k, r, w1, ?_, g2⟩
  unfold sm_blk
  dsimp only
  rw [if_neg h1, h2]
  exact g1
theorem x_tabOut {dd lo hi : Int} {offs : Array Int} {x : Int32} (h1 : x.toInt < lo ∨ hi < x.toInt) (h : sm_X L xs d y dd.toNat (sm_code y dd.toNat) lv st w Q) : sm_X L xs d y cb (.tableswitch dd lo hi offs :: is) lv (.int x :: st) w Q := by
  obtain ⟨n, k, r, w1, g1, g2⟩ := x_jump h
  refine ⟨n, k, r, w1, ?_, g2⟩
  unfold sm_blk
  dsimp only
  rw [if_pos h1]
  exact g1
theorem x_iret {x : Int32} (hb : sm_bo y = false) (h : Q (some (.int x)) w) : sm_X L xs d y cb (.ireturn :: is) lv [.int x] w Q := by
  refine ⟨0, 0, some (.int x), w, ?_, h⟩
  unfold sm_blk
  dsimp only
  rw [hb]
  rfl
theorem x_zret {x : Int32} (hx : x = 0 ∨ x = 1) (h : Q (some (.int x)) w) : sm_X L xs d y cb (.ireturn :: is) lv [.int x] w Q := by
  refine ⟨0, 0, some (.int x), w, ?_, h⟩
  unfold sm_blk
  dsimp only
  rw [if_neg (fun g => g.2 hx)]
theorem x_lret {x : Int64} (h : Q (some (.long x)) w) : sm_X L xs d y cb (.lreturn :: is) lv [.long x] w Q := ⟨0, 0, some (.long x), w, rfl, h⟩
theorem x_aret {x : Nat} (h : Q (some (.ref x)) w) : sm_X L xs d y cb (.areturn :: is) lv [.ref x] w Q := ⟨0, 0, some (.ref x), w, rfl, h⟩
theorem x_aretN (h : Q (some .null) w) : sm_X L xs d y cb (.areturn :: is) lv [.null] w Q := ⟨0, 0, some .null, w, rfl, h⟩
theorem x_ret (h : Q none w) : sm_X L xs d y cb (.return_ :: is) lv [] w Q := ⟨0, 0, none, w, rfl, h⟩
theorem x_inv {k n yy : Nat} {Q1 : Option Value → sm_W → Prop} (hb : (Nat.ble (n % 16) st.length && Nat.ble (sm_words (st.drop (n % 16))) 8) = true) (ht : sm_tg k n (st.take (n % 16)).reverse w = some yy) (he : sm_E L xs d yy (st.take (n % 16)).reverse w Q1) (h : ∀ r w1, Q1 r w1 → sm_X L xs d y cb is lv (r.toList ++ st.drop (n % 16)) w1 Q) :
    ∃ (m j : Nat) (r : Option Value) (w1 : sm_W), (match sm_inv (sm_call L xs d m) k n st w with | some (st1, w2) => sm_blk L xs (sm_call L xs d m) (sm_meth L xs (sm_call L xs d m) y j) (sm_bo y) cb is lv st1 w2 | none => none) = some (r, w1) ∧ Q r w1 := by
  obtain ⟨n1, r1, w1, h1, h2⟩ := he
  obtain ⟨n2, k2, r2, w2, h3, h4⟩ := h r1 w1 h2
  refine ⟨max n1 n2, k2, r2, w2, ?_, h4⟩
  have h5 : sm_inv (sm_call L xs d (max n1 n2)) k n st w = some (r1.toList ++ st.drop (n % 16), w1) := by
    unfold sm_inv
    rw [hb, ht]
    dsimp only [cond_true]
    rw [sm_call_le (Nat.le_max_left n1 n2) _ _ _ _ h1]
  rw [h5]
  exact sm_blk_le (sm_call_le (Nat.le_max_right n1 n2)) (sm_meth_le (sm_call_le (Nat.le_max_right n1 n2)) (Nat.le_refl _)) _ _ _ _ h3
theorem x_invS {n : Nat} {Q1 : Option Value → sm_W → Prop} (hb : (Nat.ble (n % 16) st.length && Nat.ble (sm_words (st.drop (n % 16))) 8) = true) (he : sm_E L xs d (n / 256) (st.take (n % 16)).reverse w Q1) (h : ∀ r w1, Q1 r w1 → sm_X L xs d y cb is lv (r.toList ++ st.drop (n % 16)) w1 Q) : sm_X L xs d y cb (.invokestatic n :: is) lv st w Q := by
  obtain ⟨m, j, r, w1, g1, g2⟩ := x_inv (k := 0) hb rfl he h
  exact ⟨m, j, r, w1, g1, g2⟩
theorem x_invP {n a ci : Nat} {fs as : List Value} {Q1 : Option Value → sm_W → Prop} (hb : (Nat.ble (n % 16) st.length && Nat.ble (sm_words (st.drop (n % 16))) 8) = true) (hs : (st.take (n % 16)).reverse = .ref a :: as) (ha : w[a]? = some (.inr (ci, fs))) (hc : sm_sub ci (n / 16 % 16) = true) (he : sm_E L xs d (n / 256) (.ref a :: as) w Q1) (h : ∀ r w1, Q1 r w1 → sm_X L xs d y cb is lv (r.toList ++ st.drop (n % 16)) w1 Q) : sm_X L xs d y cb (.invokespecial n :: is) lv st w Q := by
  rw [← hs] at he
  obtain ⟨m, j, r, w1, g1, g2⟩ := x_inv (k := 1) hb (by rw [hs]; unfold sm_tg; dsimp only; rw [ha]; dsimp only; rw [hc]; rfl) he h
  exact ⟨m, j, r, w1, g1, g2⟩
theorem x_invV {n a ci yy : Nat} {fs as : List Value} {Q1 : Option Value → sm_W → Prop} (hb : (Nat.ble (n % 16) st.length && Nat.ble (sm_words (st.drop (n % 16))) 8) = true) (hs : (st.take (n % 16)).reverse = .ref a :: as) (ha : w[a]? = some (.inr (ci, fs))) (hc : sm_vt (n / 256) (n / 16 % 16) ci = some yy) (he : sm_E L xs d yy (.ref a :: as) w Q1) (h : ∀ r w1, Q1 r w1 → sm_X L xs d y cb is lv (r.toList ++ st.drop (n % 16)) w1 Q) : sm_X L xs d y cb (.invokevirtual n :: is) lv st w Q := by
  rw [← hs] at he
  obtain ⟨m, j, r, w1, g1, g2⟩ := x_inv (k := 2) hb (by rw [hs]; unfold sm_tg; dsimp only; rw [ha]; exact hc) he h
  exact ⟨m, j, r, w1, g1, g2⟩
end XR2
