/-! memory laws; Math, Arrays.fill, Notes -/
theorem mI_eq (M : mm_T) (a i : Nat) (v : Int32) : (m_setI M a i v).1 a = upd (M.1 a) i v := by simp [m_setI, va_up]
theorem mI_ne (M : mm_T) {a b : Nat} (i : Nat) (v : Int32) (h : b ≠ a) : (m_setI M a i v).1 b = M.1 b := by simp [m_setI, va_up, h]
theorem mI_2 (M : mm_T) (a i : Nat) (v : Int32) : (m_setI M a i v).2 = M.2 := rfl
theorem mA_eq (M : mm_T) (a : Nat) (f : Nat → Int32) : (m_setA M a f).1 a = f := by simp [m_setA, va_up]
theorem mA_ne (M : mm_T) {a b : Nat} (f : Nat → Int32) (h : b ≠ a) : (m_setA M a f).1 b = M.1 b := by simp [m_setA, va_up, h]
theorem mA_I (M : mm_T) (a i : Nat) (f : Nat → Int32) (v : Int32) : m_setI (m_setA M a f) a i v = m_setA M a (upd f i v) := by
  unfold m_setI m_setA
  congr 1
  funext b
  by_cases h : b = a <;> simp [va_up, h]
theorem mA_self (M : mm_T) (a : Nat) : m_setA M a (M.1 a) = M := by
  unfold m_setA
  have : va_up M.1 a (M.1 a) = M.1 := by
    funext b
    by_cases h : b = a <;> simp [va_up, h]
  rw [this]
theorem mA_A (M : mm_T) (a : Nat) (f g : Nat → Int32) : m_setA (m_setA M a f) a g = m_setA M a g := by
  unfold m_setA
  congr 1
  funext b
  by_cases h : b = a <;> simp [va_up, h]
section N1
variable {L : Nat} {xs : Nat → Int32} {d y cb : Nat} {is : List sm_I} {lv : sm_L} {st : List Value} {w : sm_W} {sh : List sh_T} {M : mm_T} {Q : Option Value → sm_W → Prop} {a n no ri ti : Nat}
theorem x_irem {x z : Int32} (hz : ¬ z = 0) (h : sm_X L xs d y cb is lv (.int (x - x / z * z) :: st) w Q) : sm_X L xs d y cb (.irem :: is) lv (.int z :: .int x :: st) w Q := x_op (by simp only [sm_op]; rw [if_neg hz]) h
theorem x_idiv {x z : Int32} (hz : ¬ z = 0) (h : sm_X L xs d y cb is lv (.int (x / z) :: st) w Q) : sm_X L xs d y cb (.idiv :: is) lv (.int z :: .int x :: st) w Q := x_op (by simp only [sm_op]; rw [if_neg hz]) h
theorem m_alen (hs : sh[a]? = some (arrI n)) (h : sm_X L xs d y cb is lv (.int (nI n) :: st) (wm sh M) Q) : sm_X L xs d y cb (.arraylength :: is) lv (.ref a :: st) (wm sh M) Q := by
  refine x_op ?_ h
  simp only [sm_op, wm_get hs]
  rfl
theorem c_min {p q : Int32} (hq : Q (some (.int (if q < p then q else p))) w) : sm_E L xs (d + 1) 51 [.int p, .int q] w Q := by
  refine e_intro rfl rfl ?_
  repeat (first | refine x_kcg rfl ?_ | refine x_opp rfl rfl ?_ | refine x_go rfl ?_)
  refine x_icm br_gt (fun h1 => ?_) (fun h1 => ?_)
  · repeat (first | refine x_kcg rfl ?_ | refine x_opp rfl rfl ?_ | refine x_go rfl ?_)
    refine x_iret rfl ?_
    rw [if_pos h1] at hq
    exact hq
  · repeat (first | refine x_kcg rfl ?_ | refine x_opp rfl rfl ?_ | refine x_go rfl ?_)
    refine x_iret rfl ?_
    rw [if_neg h1] at hq
    exact hq
theorem c_max {p q : Int32} (hq : Q (some (.int (if p < q then q else p))) w) : sm_E L xs (d + 1) 114 [.int p, .int q] w Q := by
  refine e_intro rfl rfl ?_
  repeat (first | refine x_kcg rfl ?_ | refine x_opp rfl rfl ?_ | refine x_go rfl ?_)
  refine x_icm br_lt (fun h1 => ?_) (fun h1 => ?_)
  · repeat (first | refine x_kcg rfl ?_ | refine x_opp rfl rfl ?_ | refine x_go rfl ?_)
    refine x_iret rfl ?_
    rw [if_pos h1] at hq
    exact hq
  · repeat (first | refine x_kcg rfl ?_ | refine x_opp rfl rfl ?_ | refine x_go rfl ?_)
    refine x_iret rfl ?_
    rw [if_neg h1] at hq
    exact hq
def fMod (p q : Int32) : Int32 := if 0 ≤ p ^^^ q then p - p / q * q else if p - p / q * q = 0 then p - p / q * q else p - p / q * q + q
theorem c_floorMod {p q : Int32} (hz : ¬ q = 0) (hq : Q (some (.int (fMod p q))) w) : sm_E L xs (d + 1) 139 [.int p, .int q] w Q := by
  refine e_intro rfl rfl ?_
  repeat (first | refine x_kcg rfl ?_ | refine x_opp rfl rfl ?_ | refine x_go rfl ?_)
  refine x_irem hz ?_
  repeat (first | refine x_kcg rfl ?_ | refine x_opp rfl rfl ?_ | refine x_go rfl ?_)
  refine x_ifc br_ge (fun h1 => ?_) (fun h1 => ?_)
  · repeat (first | refine x_kcg rfl ?_ | refine x_opp rfl rfl ?_ | refine x_go rfl ?_)
    refine x_iret rfl ?_
    unfold fMod at hq
    rw [if_pos h1] at hq
    exact hq
  · repeat (first | refine x_kcg rfl ?_ | refine x_opp rfl rfl ?_ | refine x_go rfl ?_)
    refine x_ifc br_eq (fun h2 => ?_) (fun h2 => ?_)
    · repeat (first | refine x_kcg rfl ?_ | refine x_opp rfl rfl ?_ | refine x_go rfl ?_)
      refine x_iret rfl ?_
      unfold fMod at hq
      rw [if_neg h1, if_pos h2] at hq
      exact hq
    · repeat (first | refine x_kcg rfl ?_ | refine x_opp rfl rfl ?_ | refine x_go rfl ?_)
      refine x_iret rfl ?_
      unfold fMod at hq
      rw [if_neg h1, if_neg h2] at hq
      exact hq
def aFill (f : Nat → Int32) (n : Nat) (v : Int32) : Nat → Int32 := fun j => if j < n then v else f j
theorem aFill_s (f : Nat → Int32) (n : Nat) (v : Int32) : upd (aFill f n v) n v = aFill f (n + 1) v := by
  funext j
  unfold aFill upd
  by_cases h : j = n
  · subst h
    rw [if_pos rfl, if_pos (Nat.lt_succ_self j)]
  · rw [if_neg h]
    dsimp only
    by_cases h2 : j < n
    · rw [if_pos h2, if_pos (by omega)]
    · rw [if_neg h2, if_neg (by omega)]
theorem aFill_0 (f : Nat → Int32) (v : Int32) : aFill f 0 v = f := by
  funext j
  unfold aFill
  rw [if_neg (Nat.not_lt_zero j)]
theorem l_fill {v : Int32} (ha : sh[a]? = some (arrI n)) (hn : n < 2 ^ 31) (hq : Q none (wm sh (m_setA M a (aFill (M.1 a) n v)))) : ∀ k i, i + k = n → sm_X L xs d 13 1 (sm_code 13 1) [(0, .ref a), (1, .int v), (2, .int (nI i)), (3, .int (nI n))] [] (wm sh (m_setA M a (aFill (M.1 a) i v))) Q := by
  intro k
  induction k with
  | zero =>
    intro i hi
    have e : i = n := hi
    subst e
    repeat (first | refine x_kcg rfl ?_ | refine x_opp rfl rfl ?_ | refine x_go rfl ?_)
    refine x_icm br_ge (fun h1 => ?_) (fun h1 => ?_)
    · exact x_ret hq
    · exact absurd (nI_le (Nat.le_refl i) hn) h1
  | succ k ih =>
    intro i hi
    repeat (first | refine x_kcg rfl ?_ | refine x_opp rfl rfl ?_ | refine x_go rfl ?_)
    refine x_icm br_ge (fun h1 => ?_) (fun h1 => ?_)
    · exact absurd h1 (nI_ge (by omega) hn)
    · repeat (first | refine x_kcg rfl ?_ | refine x_opp rfl rfl ?_ | refine x_go rfl ?_)
      refine m_iast ha (vp_in_nI (by omega) hn) ?_
      rw [nI_clamp (by omega), mA_I, aFill_s]
      repeat (first | refine x_kcg rfl ?_ | refine x_incg rfl rfl ?_ | refine x_opp rfl rfl ?_)
      refine x_goto ?_
      refine x_lvs [(0, .ref a), (1, .int v), (2, .int (nI (i + 1))), (3, .int (nI n))] rfl rfl rfl ⟨rfl, rfl, rfl, rfl, trivial⟩ ?_
      exact ih (i + 1) (by omega)
theorem c_fill {v : Int32} (ha : sh[a]? = some (arrI n)) (hn : n < 2 ^ 31) (hq : Q none (wm sh (m_setA M a (aFill (M.1 a) n v)))) : sm_E L xs (d + 1) 13 [.ref a, .int v] (wm sh M) Q := by
  refine e_intro rfl rfl ?_
  repeat (first | refine x_kcg rfl ?_ | refine x_incg rfl rfl ?_ | refine x_opp rfl rfl ?_)
  refine m_alen ha ?_
  repeat (first | refine x_kcg rfl ?_ | refine x_incg rfl rfl ?_ | refine x_opp rfl rfl ?_)
  refine x_fall ?_
  refine x_lvs [(0, .ref a), (1, .int v), (2, .int (nI 0)), (3, .int (nI n))] rfl rfl rfl ⟨rfl, rfl, rfl, rfl, trivial⟩ ?_
  have h := l_fill (L := L) (xs := xs) (d := d) (M := M) ha hn hq n 0 (Nat.zero_add n)
  rw [aFill_0, mA_self] at h
  exact h
theorem c_clear (hn : sh[no]? = some (notesS ri ti)) (hq : Q none (wm sh (m_setI M no 5 0))) : sm_E L xs (d + 1) 8 [.ref no] (wm sh M) Q := by
  refine e_intro rfl rfl ?_
  repeat (first | refine x_kcg rfl ?_ | refine x_opp rfl rfl ?_ | refine x_go rfl ?_)
  refine m_putI hn rfl ?_
  exact x_ret hq
theorem c_met (hn : sh[no]? = some (notesS ri ti)) (hq : Q (some (.int (zz (decide (M.1 no 5 ≠ 0))))) (wm sh M)) : sm_E L xs (d + 1) 56 [.ref no] (wm sh M) Q := by
  refine e_intro rfl rfl ?_
  repeat (first | refine x_kcg rfl ?_ | refine x_opp rfl rfl ?_ | refine x_go rfl ?_ | refine m_getg hn rfl rfl rfl ?_)
  refine x_ifc br_eq (fun h1 => ?_) (fun h1 => ?_)
  · repeat (first | refine x_kcg rfl ?_ | refine x_opp rfl rfl ?_ | refine x_go rfl ?_)
    refine x_zret (Or.inl rfl) ?_
    rw [show decide (M.1 no 5 ≠ 0) = false from decide_eq_false (fun h => h h1)] at hq
    exact hq
  · repeat (first | refine x_kcg rfl ?_ | refine x_opp rfl rfl ?_ | refine x_go rfl ?_)
    refine x_zret (Or.inr rfl) ?_
    rw [show decide (M.1 no 5 ≠ 0) = true from decide_eq_true h1] at hq
    exact hq
theorem c_answer (hn : sh[no]? = some (notesS ri ti)) (hq : Q (some (.int (-10 - M.1 no 5))) (wm sh M)) : sm_E L xs (d + 1) 11 [.ref no] (wm sh M) Q := by
  refine e_intro rfl rfl ?_
  repeat (first | refine x_kcg rfl ?_ | refine x_opp rfl rfl ?_ | refine x_go rfl ?_ | refine m_getg hn rfl rfl rfl ?_)
  exact x_iret rfl hq
def nFind (M : mm_T) (no ti : Nat) (k : Int32) : mm_T := m_setI (m_setI M no 5 k) ti k.toNatClampNeg (M.1 ti k.toNatClampNeg + 1)
theorem c_find {k : Int32} (hn : sh[no]? = some (notesS ri ti)) (ht : sh[ti]? = some (arrI 6)) (hne : ti ≠ no) (hk : vp_in k 6) (hq : Q (some (.int (-10 - k))) (wm sh (nFind M no ti k))) : sm_E L xs (d + 2) 10 [.ref no, .int k] (wm sh M) Q := by
  refine e_intro rfl rfl ?_
  repeat (first | refine x_kcg rfl ?_ | refine x_opp rfl rfl ?_ | refine x_go rfl ?_)
  refine m_putI hn rfl ?_
  repeat (first | refine x_kcg rfl ?_ | refine x_opp rfl rfl ?_ | refine x_go rfl ?_ | refine m_getg hn rfl rfl rfl ?_)
  refine m_iald ht hk ?_
  repeat (first | refine x_kcg rfl ?_ | refine x_opp rfl rfl ?_ | refine x_go rfl ?_ | refine m_getg hn rfl rfl rfl ?_)
  refine m_iast ht hk ?_
  repeat (first | refine x_kcg rfl ?_ | refine x_opp rfl rfl ?_ | refine x_go rfl ?_)
  rw [mI_ne M _ _ hne]
  refine m_callV hn rfl rfl rfl (c_answer hn ?_)
  refine x_iret rfl ?_
  rw [mI_ne _ _ _ (Ne.symm hne), mI_eq]
  exact hq
def nBeg (M : mm_T) (no ri : Nat) (k t : Int32) : mm_T :=
  let p := M.1 no 2
  let c := if (100 : Int32) < M.1 no 3 + 1 then 100 else M.1 no 3 + 1
  m_setI (m_setI (m_setI (m_setI M ri p.toNatClampNeg (10 * k + t)) no 2 (if 100 ≤ p + 1 then 0 else p + 1)) no 3 c) no 4 (M.1 no 4 + 1)
theorem c_begin {k t : Int32} (hn : sh[no]? = some (notesS ri ti)) (hr : sh[ri]? = some (arrI 100)) (hne : ri ≠ no) (hp : vp_in (M.1 no 2) 100) (hq : Q none (wm sh (nBeg M no ri k t))) : sm_E L xs (d + 2) 50 [.ref no, .int k, .int t] (wm sh M) Q := by
  refine e_intro rfl rfl ?_
  repeat (first | refine x_kcg rfl ?_ | refine x_opp rfl rfl ?_ | refine x_go rfl ?_ | refine m_getg hn rfl rfl rfl ?_)
  refine m_iast hr hp ?_
  repeat (first | refine x_kcg rfl ?_ | refine x_opp rfl rfl ?_ | refine x_go rfl ?_ | refine m_getg hn rfl rfl rfl ?_)
  rw [mI_ne M _ _ (Ne.symm hne)]
  unfold nBeg at hq
  dsimp only at hq
  refine x_icm br_ge (fun h1 => ?_) (fun h1 => ?_)
  · have h1 : 100 ≤ M.1 no 2 + 1 := h1
    rw [if_pos h1] at hq
    repeat (first | refine x_kcg rfl ?_ | refine x_opp rfl rfl ?_ | refine x_go rfl ?_)
    refine m_putI hn rfl ?_
    repeat (first | refine x_kcg rfl ?_ | refine x_opp rfl rfl ?_ | refine x_go rfl ?_ | refine m_getg hn rfl rfl rfl ?_)
    refine m_callS rfl rfl (c_min ?_)
    refine m_putI hn rfl ?_
    repeat (first | refine x_kcg rfl ?_ | refine x_opp rfl rfl ?_ | refine x_go rfl ?_ | refine m_getg hn rfl rfl rfl ?_)
    refine m_putI hn rfl ?_
    refine x_ret ?_
    simp only [mI_eq, mI_ne _ _ _ (Ne.symm hne)]
    exact hq
  · have h1 : ¬ 100 ≤ M.1 no 2 + 1 := h1
    rw [if_neg h1] at hq
    repeat (first | refine x_kcg rfl ?_ | refine x_opp rfl rfl ?_ | refine x_go rfl ?_ | refine m_getg hn rfl rfl rfl ?_)
    refine m_putI hn rfl ?_
    repeat (first | refine x_kcg rfl ?_ | refine x_opp rfl rfl ?_ | refine x_go rfl ?_ | refine m_getg hn rfl rfl rfl ?_)
    refine m_callS rfl rfl (c_min ?_)
    refine m_putI hn rfl ?_
    repeat (first | refine x_kcg rfl ?_ | refine x_opp rfl rfl ?_ | refine x_go rfl ?_ | refine m_getg hn rfl rfl rfl ?_)
    refine m_putI hn rfl ?_
    refine x_ret ?_
    simp only [mI_eq, mI_ne _ _ _ (Ne.symm hne)]
    exact hq
theorem c_latest {i : Int32} (hn : sh[no]? = some (notesS ri ti)) (hr : sh[ri]? = some (arrI 100)) (hp : vp_in (fMod (M.1 no 2 - 1 - i) 100) 100) (hq : Q (some (.int (M.1 ri (fMod (M.1 no 2 - 1 - i) 100).toNatClampNeg))) (wm sh M)) : sm_E L xs (d + 2) 138 [.ref no, .int i] (wm sh M) Q := by
  refine e_intro rfl rfl ?_
  repeat (first | refine x_kcg rfl ?_ | refine x_opp rfl rfl ?_ | refine x_go rfl ?_ | refine m_getg hn rfl rfl rfl ?_)
  refine m_callS rfl rfl (c_floorMod (by decide) ?_)
  refine m_iald hr hp ?_
  exact x_iret rfl hq
end N1
