/-! words as numbers; the shelf -/
theorem br_leq {x z : Int64} (a b : sm_O) : (x = z → sm_br .eq (lg_cmp x z) 0 a b = a) ∧ (¬ x = z → sm_br .eq (lg_cmp x z) 0 a b = b) := by
  unfold lg_cmp
  by_cases h : x = z
  · subst h
    refine ⟨fun _ => ?_, fun h => absurd rfl h⟩
    rw [if_neg (Int64.lt_irrefl (a := x)), if_pos rfl]
    rfl
  · refine ⟨fun g => absurd g h, fun _ => ?_⟩
    by_cases h2 : x > z
    · rw [if_pos h2]; rfl
    · rw [if_neg h2, if_neg h]; rfl
theorem br_lne {x z : Int64} (a b : sm_O) : (x ≠ z → sm_br .ne (lg_cmp x z) 0 a b = a) ∧ (¬ x ≠ z → sm_br .ne (lg_cmp x z) 0 a b = b) := by
  unfold lg_cmp
  by_cases h : x = z
  · subst h
    refine ⟨fun g => absurd rfl g, fun _ => ?_⟩
    rw [if_neg (Int64.lt_irrefl (a := x)), if_pos rfl]
    rfl
  · refine ⟨fun _ => ?_, fun g => absurd h g⟩
    by_cases h2 : x > z
    · rw [if_pos h2]; rfl
    · rw [if_neg h2, if_neg h]; rfl
theorem br_lgt {x z : Int64} (a b : sm_O) : (z < x → sm_br .gt (lg_cmp x z) 0 a b = a) ∧ (¬ z < x → sm_br .gt (lg_cmp x z) 0 a b = b) := by
  unfold lg_cmp
  by_cases h : z < x
  · refine ⟨fun _ => ?_, fun g => absurd h g⟩
    rw [if_pos h]
    rfl
  · refine ⟨fun g => absurd g h, fun _ => ?_⟩
    rw [if_neg h]
    by_cases h2 : x = z
    · rw [if_pos h2]; rfl
    · rw [if_neg h2]; rfl
def shr5 (r : Int64) : Int64 := (r.toUInt64 >>> ((5 : Int32).toInt64.toUInt64 &&& Int64.toUInt64 63)).toInt64
def ltr (w : Int64) (i : Int32) : Int32 := ((w.toUInt64 >>> ((5 * i).toInt64.toUInt64 &&& Int64.toUInt64 63)).toInt64 &&& 31).toInt32
def lnUp (top : Int32) : Nat → Int64 → Nat → Int64 × Nat
  | 0, r, n => (r, n)
  | k + 1, r, n => if r &&& 31 = 0 then (r, n) else if top.toInt64 < r &&& 31 then (r, n) else lnUp top k (shr5 r) (n + 1)
/-- how many letters up to top a word has; 0: it is none -/
def lenU (w : Int64) (top : Int32) : Int32 := if (lnUp top 7 w 0).1 ≠ 0 then 0 else if nI (lnUp top 7 w 0).2 < 2 then 0 else nI (lnUp top 7 w 0).2
def mkF (w : Int64) : Nat → Int64
  | 0 => 0
  | i + 1 => if ltr w (nI i) = 0 then mkF w i else mkF w i ||| (31 <<< ((5 * nI i).toInt64 &&& 63))
def bfF (v w : Int64) : Nat → Nat → Bool
  | 0, _ => false
  | k + 1, i => if ltr v (nI i) - ltr w (nI i) = 0 then bfF v w k (i + 1) else if 0 ≤ ltr v (nI i) - ltr w (nI i) then false else true
section W1
variable {L : Nat} {xs : Nat → Int32} {d : Nat} {w : sm_W} {sh : List sh_T} {M : mm_T} {Q : Option Value → sm_W → Prop} {sf no ls we ri ti : Nat}
theorem c_isGridNumber {g : Int32} (hq : Q (some (.int (zz (gRow 4 g)))) w) : sm_E L xs (d + 1) 9 [.int g] w Q := by
  refine e_intro rfl rfl ?_
  repeat (first | refine x_kcg rfl ?_ | refine x_opp rfl rfl ?_ | refine x_go rfl ?_)
  refine x_ifc br_lt (fun h1 => ?_) (fun h1 => ?_)
  · repeat (first | refine x_kcg rfl ?_ | refine x_opp rfl rfl ?_ | refine x_go rfl ?_)
    refine x_zret (Or.inl rfl) ?_
    simp only [gRow, h1, if_true, zz_f] at hq
    exact hq
  · repeat (first | refine x_kcg rfl ?_ | refine x_opp rfl rfl ?_ | refine x_go rfl ?_)
    refine x_icm br_ge (fun h2 => ?_) (fun h2 => ?_)
    · repeat (first | refine x_kcg rfl ?_ | refine x_opp rfl rfl ?_ | refine x_go rfl ?_)
      refine x_zret (Or.inl rfl) ?_
      simp only [gRow, h1, h2, if_true, if_false, zz_f] at hq
      exact hq
    · repeat (first | refine x_kcg rfl ?_ | refine x_opp rfl rfl ?_ | refine x_go rfl ?_)
      refine x_zret (Or.inr rfl) ?_
      simp only [gRow, h1, h2, if_false, zz_t] at hq
      exact hq
def stOk (s : Int32) : Bool := if s < 1 then false else if 5000 < s then false else true
theorem c_isStepNumber {s : Int32} (hq : Q (some (.int (zz (stOk s)))) w) : sm_E L xs (d + 1) 89 [.int s] w Q := by
  refine e_intro rfl rfl ?_
  repeat (first | refine x_kcg rfl ?_ | refine x_opp rfl rfl ?_ | refine x_go rfl ?_)
  refine x_icm br_lt (fun h1 => ?_) (fun h1 => ?_)
  · repeat (first | refine x_kcg rfl ?_ | refine x_opp rfl rfl ?_ | refine x_go rfl ?_)
    refine x_zret (Or.inl rfl) ?_
    simp only [stOk, h1, if_true, zz_f] at hq
    exact hq
  · repeat (first | refine x_kcg rfl ?_ | refine x_opp rfl rfl ?_ | refine x_go rfl ?_)
    refine x_icm br_gt (fun h2 => ?_) (fun h2 => ?_)
    · repeat (first | refine x_kcg rfl ?_ | refine x_opp rfl rfl ?_ | refine x_go rfl ?_)
      refine x_zret (Or.inl rfl) ?_
      simp only [stOk, h1, h2, if_true, if_false, zz_f] at hq
      exact hq
    · repeat (first | refine x_kcg rfl ?_ | refine x_opp rfl rfl ?_ | refine x_go rfl ?_)
      refine x_zret (Or.inr rfl) ?_
      simp only [stOk, h1, h2, if_false, zz_t] at hq
      exact hq
theorem c_letterOf {v : Int64} {i : Int32} (hq : Q (some (.int (ltr v i))) w) : sm_E L xs (d + 1) 36 [.long v, .int i] w Q := by
  refine e_intro rfl rfl ?_
  repeat (first | refine x_kcg rfl ?_ | refine x_opp rfl rfl ?_ | refine x_go rfl ?_)
  exact x_iret rfl hq
theorem l_lenU {v : Int64} {top : Int32} : ∀ k r n, n + k = 7 → Q (some (.int (if (lnUp top k r n).1 ≠ 0 then 0 else if nI (lnUp top k r n).2 < 2 then 0 else nI (lnUp top k r n).2))) w → sm_X L xs d 28 1 (sm_code 28 1) [(0, .long v), (2, .int top), (3, .long r), (5, .int (nI n))] [] w Q := by
  have fin : ∀ r n, Q (some (.int (if r ≠ 0 then 0 else if nI n < 2 then 0 else nI n))) w → sm_X L xs d 28 5 (sm_code 28 5) [(0, .long v), (2, .int top), (3, .long r), (5, .int (nI n))] [] w Q := by
    intro r n hq
    repeat (first | refine x_kcg rfl ?_ | refine x_opp rfl rfl ?_ | refine x_go rfl ?_)
    refine x_ifc br_lne (fun h1 => ?_) (fun h1 => ?_)
    · have h1 : r ≠ 0 := h1
      rw [if_pos h1] at hq
      repeat (first | refine x_kcg rfl ?_ | refine x_opp rfl rfl ?_ | refine x_go rfl ?_)
      exact x_iret rfl hq
    · have h1 : ¬ r ≠ 0 := h1
      rw [if_neg h1] at hq
      repeat (first | refine x_kcg rfl ?_ | refine x_opp rfl rfl ?_ | refine x_go rfl ?_)
      refine x_icm br_lt (fun h2 => ?_) (fun h2 => ?_)
      · rw [if_pos h2] at hq
        repeat (first | refine x_kcg rfl ?_ | refine x_opp rfl rfl ?_ | refine x_go rfl ?_)
        exact x_iret rfl hq
      · rw [if_neg h2] at hq
        repeat (first | refine x_kcg rfl ?_ | refine x_opp rfl rfl ?_ | refine x_go rfl ?_)
        exact x_iret rfl hq
  intro k
  induction k with
  | zero =>
    intro r n hn hq
    have e : n = 7 := hn
    subst e
    repeat (first | refine x_kcg rfl ?_ | refine x_opp rfl rfl ?_ | refine x_go rfl ?_)
    refine x_icm br_ge (fun _ => ?_) (fun h1 => absurd (nI_le (a := 7) (Nat.le_refl 7) (by decide)) h1)
    exact fin r 7 hq
  | succ k ih =>
    intro r n hn hq
    repeat (first | refine x_kcg rfl ?_ | refine x_opp rfl rfl ?_ | refine x_go rfl ?_)
    refine x_icm br_ge (fun h1 => absurd h1 (nI_ge (b := 7) (by omega) (by decide))) (fun _ => ?_)
    repeat (first | refine x_kcg rfl ?_ | refine x_opp rfl rfl ?_ | refine x_go rfl ?_)
    unfold lnUp at hq
    refine x_ifc br_leq (fun h1 => ?_) (fun h1 => ?_)
    · have h1 : r &&& 31 = 0 := h1
      rw [if_pos h1] at hq
      exact fin r n hq
    · have h1 : ¬ r &&& 31 = 0 := h1
      rw [if_neg h1] at hq
      repeat (first | refine x_kcg rfl ?_ | refine x_opp rfl rfl ?_ | refine x_go rfl ?_)
      refine x_ifc br_lgt (fun h2 => ?_) (fun h2 => ?_)
      · have h2 : top.toInt64 < r &&& 31 := h2
        rw [if_pos h2] at hq
        exact fin r n hq
      · have h2 : ¬ top.toInt64 < r &&& 31 := h2
        rw [if_neg h2] at hq
        repeat (first | refine x_kcg rfl ?_ | refine x_incg rfl rfl ?_ | refine x_opp rfl rfl ?_)
        refine x_goto ?_
        refine x_lvs [(0, .long v), (2, .int top), (3, .long (shr5 r)), (5, .int (nI (n + 1)))] rfl rfl rfl ⟨rfl, rfl, rfl, rfl, trivial⟩ ?_
        exact ih (shr5 r) (n + 1) (by omega) hq
theorem c_lengthUpTo {v : Int64} {top : Int32} (hq : Q (some (.int (lenU v top))) w) : sm_E L xs (d + 1) 28 [.long v, .int top] w Q := by
  refine e_intro rfl rfl ?_
  repeat (first | refine x_kcg rfl ?_ | refine x_incg rfl rfl ?_ | refine x_opp rfl rfl ?_)
  refine x_fall ?_
  refine x_lvs [(0, .long v), (2, .int top), (3, .long v), (5, .int (nI 0))] rfl rfl rfl ⟨rfl, rfl, rfl, rfl, trivial⟩ ?_
  exact l_lenU 7 v 0 rfl hq
theorem c_isWord {v : Int64} (hq : Q (some (.int (zz (decide (lenU v 26 ≠ 0))))) w) : sm_E L xs (d + 2) 43 [.long v] w Q := by
  refine e_intro rfl rfl ?_
  repeat (first | refine x_kcg rfl ?_ | refine x_opp rfl rfl ?_ | refine x_go rfl ?_)
  refine x_invS rfl (c_lengthUpTo (top := 26) ?_) (fun _ _ h => h)
  refine x_ifc br_eq (fun h1 => ?_) (fun h1 => ?_)
  · repeat (first | refine x_kcg rfl ?_ | refine x_opp rfl rfl ?_ | refine x_go rfl ?_)
    refine x_zret (Or.inl rfl) ?_
    rw [show decide (lenU v 26 ≠ 0) = false from decide_eq_false (fun h => h h1)] at hq
    exact hq
  · repeat (first | refine x_kcg rfl ?_ | refine x_opp rfl rfl ?_ | refine x_go rfl ?_)
    refine x_zret (Or.inr rfl) ?_
    rw [show decide (lenU v 26 ≠ 0) = true from decide_eq_true h1] at hq
    exact hq
theorem c_maskOf {v : Int64} (hq : Q (some (.long (mkF v 7))) w) : sm_E L xs (d + 2) 37 [.long v] w Q := by
  refine e_intro rfl rfl ?_
  repeat (first | refine x_kcg rfl ?_ | refine x_incg rfl rfl ?_ | refine x_opp rfl rfl ?_)
  refine x_fall ?_
  refine x_lvs [(0, .long v), (2, .long (mkF v 0)), (4, .int (nI 0))] rfl rfl rfl ⟨rfl, rfl, rfl, trivial⟩ ?_
  refine loop_dn (P := fun i => sm_X L xs (d + 1) 37 1 (sm_code 37 1) [(0, .long v), (2, .long (mkF v i)), (4, .int (nI i))] [] w Q) 7 ?_ ?_
  · repeat (first | refine x_kcg rfl ?_ | refine x_opp rfl rfl ?_ | refine x_go rfl ?_)
    refine x_icm br_ge (fun _ => ?_) (fun h1 => absurd (nI_le (a := 7) (Nat.le_refl 7) (by decide)) h1)
    repeat (first | refine x_kcg rfl ?_ | refine x_opp rfl rfl ?_ | refine x_go rfl ?_)
    exact x_lret hq
  · intro i hi hP
    repeat (first | refine x_kcg rfl ?_ | refine x_opp rfl rfl ?_ | refine x_go rfl ?_)
    refine x_icm br_ge (fun h1 => absurd h1 (nI_ge (b := 7) (by omega) (by decide))) (fun _ => ?_)
    repeat (first | refine x_kcg rfl ?_ | refine x_opp rfl rfl ?_ | refine x_go rfl ?_)
    refine x_invS rfl (c_letterOf ?_) (fun _ _ h => h)
    refine x_ifc br_eq (fun h1 => ?_) (fun h1 => ?_)
    · repeat (first | refine x_kcg rfl ?_ | refine x_incg rfl rfl ?_ | refine x_opp rfl rfl ?_)
      refine x_goto ?_
      rw [show mkF v (i + 1) = mkF v i from if_pos h1] at hP
      refine x_lvs [(0, .long v), (2, .long (mkF v i)), (4, .int (nI (i + 1)))] rfl rfl rfl ⟨rfl, rfl, rfl, trivial⟩ ?_
      exact hP
    · repeat (first | refine x_kcg rfl ?_ | refine x_incg rfl rfl ?_ | refine x_opp rfl rfl ?_)
      refine x_fall ?_
      repeat (first | refine x_kcg rfl ?_ | refine x_incg rfl rfl ?_ | refine x_opp rfl rfl ?_)
      refine x_goto ?_
      rw [show mkF v (i + 1) = mkF v i ||| (31 <<< ((5 * nI i).toInt64 &&& 63)) from if_neg h1] at hP
      refine x_lvs [(0, .long v), (2, .long (mkF v i ||| (31 <<< ((5 * nI i).toInt64 &&& 63)))), (4, .int (nI (i + 1)))] rfl rfl rfl ⟨rfl, rfl, rfl, trivial⟩ ?_
      exact hP
theorem l_isBefore {v u : Int64} : ∀ k i, i + k = 7 → Q (some (.int (zz (bfF v u k i)))) w → sm_X L xs (d + 1) 94 1 (sm_code 94 1) [(0, .long v), (2, .long u), (4, .int (nI i))] [] w Q := by
  intro k
  induction k with
  | zero =>
    intro i hi hq
    have e : i = 7 := hi
    subst e
    repeat (first | refine x_kcg rfl ?_ | refine x_opp rfl rfl ?_ | refine x_go rfl ?_)
    refine x_icm br_ge (fun _ => ?_) (fun h1 => absurd (nI_le (a := 7) (Nat.le_refl 7) (by decide)) h1)
    repeat (first | refine x_kcg rfl ?_ | refine x_opp rfl rfl ?_ | refine x_go rfl ?_)
    exact x_zret (Or.inl rfl) hq
  | succ k ih =>
    intro i hi hq
    repeat (first | refine x_kcg rfl ?_ | refine x_opp rfl rfl ?_ | refine x_go rfl ?_)
    refine x_icm br_ge (fun h1 => absurd h1 (nI_ge (b := 7) (by omega) (by decide))) (fun _ => ?_)
    repeat (first | refine x_kcg rfl ?_ | refine x_opp rfl rfl ?_ | refine x_go rfl ?_)
    refine x_invS rfl (c_letterOf ?_) (fun _ _ h => h)
    repeat (first | refine x_kcg rfl ?_ | refine x_opp rfl rfl ?_ | refine x_go rfl ?_)
    refine x_invS rfl (c_letterOf ?_) (fun _ _ h => h)
    repeat (first | refine x_kcg rfl ?_ | refine x_opp rfl rfl ?_ | refine x_go rfl ?_)
    unfold bfF at hq
    refine x_ifc br_eq (fun h1 => ?_) (fun h1 => ?_)
    · rw [if_pos h1] at hq
      repeat (first | refine x_kcg rfl ?_ | refine x_incg rfl rfl ?_ | refine x_opp rfl rfl ?_)
      refine x_goto ?_
      refine x_lvs [(0, .long v), (2, .long u), (4, .int (nI (i + 1)))] rfl rfl rfl ⟨rfl, rfl, rfl, trivial⟩ ?_
      exact ih (i + 1) (by omega) hq
    · rw [if_neg h1] at hq
      repeat (first | refine x_kcg rfl ?_ | refine x_opp rfl rfl ?_ | refine x_go rfl ?_)
      refine x_ifc br_ge (fun h2 => ?_) (fun h2 => ?_)
      · rw [if_pos h2] at hq
        repeat (first | refine x_kcg rfl ?_ | refine x_opp rfl rfl ?_ | refine x_go rfl ?_)
        exact x_zret (Or.inl rfl) hq
      · rw [if_neg h2] at hq
        repeat (first | refine x_kcg rfl ?_ | refine x_opp rfl rfl ?_ | refine x_go rfl ?_)
        exact x_zret (Or.inr rfl) hq
theorem c_isBefore {v u : Int64} (hq : Q (some (.int (zz (bfF v u 7 0)))) w) : sm_E L xs (d + 2) 94 [.long v, .long u] w Q := by
  refine e_intro rfl rfl ?_
  repeat (first | refine x_kcg rfl ?_ | refine x_incg rfl rfl ?_ | refine x_opp rfl rfl ?_)
  refine x_fall ?_
  refine x_lvs [(0, .long v), (2, .long u), (4, .int (nI 0))] rfl rfl rfl ⟨rfl, rfl, rfl, trivial⟩ ?_
  exact l_isBefore 7 0 rfl hq
def sSh (sh : List sh_T) (sf no ls we ri ti : Nat) : Prop := sh[sf]? = some (shelfS no ls we) ∧ sh[ls]? = some (arrW 16) ∧ sh[we]? = some (arrI 16) ∧ sh[no]? = some (notesS ri ti) ∧ sh[ri]? = some (arrI 100) ∧ sh[ti]? = some (arrI 6) ∧ ti ≠ no ∧ ri ≠ no ∧ sf ≠ no ∧ we ≠ no ∧ we ≠ sf ∧ ti ≠ sf ∧ ri ≠ sf ∧ ti ≠ ri ∧ we ≠ ti ∧ we ≠ ri
theorem c_wasMade {k : Int32} (hs : sSh sh sf no ls we ri ti) (hq : Q (some (.int (zz (gRow (M.1 sf 3) k)))) (wm sh M)) : sm_E L xs (d + 1) 27 [.ref sf, .int k] (wm sh M) Q := by
  refine e_intro rfl rfl ?_
  repeat (first | refine x_kcg rfl ?_ | refine x_opp rfl rfl ?_ | refine x_go rfl ?_ | refine m_getg hs.1 rfl rfl rfl ?_)
  refine x_ifc br_lt (fun h1 => ?_) (fun h1 => ?_)
  · repeat (first | refine x_kcg rfl ?_ | refine x_opp rfl rfl ?_ | refine x_go rfl ?_ | refine m_getg hs.1 rfl rfl rfl ?_)
    refine x_zret (Or.inl rfl) ?_
    simp only [gRow, h1, if_true, zz_f] at hq
    exact hq
  · repeat (first | refine x_kcg rfl ?_ | refine x_opp rfl rfl ?_ | refine x_go rfl ?_ | refine m_getg hs.1 rfl rfl rfl ?_)
    refine x_icm br_ge (fun h2 => ?_) (fun h2 => ?_)
    · repeat (first | refine x_kcg rfl ?_ | refine x_opp rfl rfl ?_ | refine x_go rfl ?_)
      refine x_zret (Or.inl rfl) ?_
      simp only [gRow, h1, h2, if_true, if_false, zz_f] at hq
      exact hq
    · repeat (first | refine x_kcg rfl ?_ | refine x_opp rfl rfl ?_ | refine x_go rfl ?_)
      refine x_zret (Or.inr rfl) ?_
      simp only [gRow, h1, h2, if_false, zz_t] at hq
      exact hq
def wantP (M : mm_T) (sf ls : Nat) (k : Int32) : Option Nat := if gRow (M.1 sf 3) k = true then M.2.2 ls k.toNatClampNeg else none
theorem in16 {h r : Int32} (g : gRow h r = true) (h16 : h ≤ 16) : ∃ i : Nat, i < 16 ∧ r = nI i := by
  unfold gRow at g
  split at g
  · cases g
  · split at g
    · cases g
    · rename_i h1 h2
      obtain ⟨j, hj, rfl⟩ := nI_of h1
      refine ⟨j, ?_, rfl⟩
      rw [Int32.le_iff_toInt_le] at h2 h16
      rw [nI_toInt hj] at h2
      have : (16 : Int32).toInt = 16 := by decide
      omega
theorem c_wanted {k : Int32} (hs : sSh sh sf no ls we ri ti) (h16 : M.1 sf 3 ≤ 16) (hq1 : ∀ a, wantP M sf ls k = some a → Q (some (.ref a)) (wm sh M)) (hq2 : wantP M sf ls k = none → Q (some .null) (wm sh (nFind M no ti 1))) : sm_E L xs (d + 3) 41 [.ref sf, .int k] (wm sh M) Q := by
  refine e_intro rfl rfl ?_
  repeat (first | refine x_kcg rfl ?_ | refine x_opp rfl rfl ?_ | refine x_go rfl ?_ | refine m_getg hs.1 rfl rfl rfl ?_)
  refine m_callV hs.1 rfl rfl rfl (c_wasMade hs ?_)
  refine x_ifc br_eqz (fun h1 => ?_) (fun h1 => ?_)
  · have hn : wantP M sf ls k = none := by
      unfold wantP
      rw [if_neg (by rw [h1]; exact Bool.false_ne_true)]
    repeat (first | refine x_kcg rfl ?_ | refine x_opp rfl rfl ?_ | refine x_go rfl ?_ | refine m_getg hs.1 rfl rfl rfl ?_)
    refine x_ifnonN ?_
    repeat (first | refine x_kcg rfl ?_ | refine x_opp rfl rfl ?_ | refine x_go rfl ?_ | refine m_getg hs.1 rfl rfl rfl ?_)
    refine m_callV hs.2.2.2.1 rfl rfl rfl (c_find (k := 1) hs.2.2.2.1 hs.2.2.2.2.2.1 hs.2.2.2.2.2.2.1 (vp_in_nI (n := 1) (by decide) (by decide)) ?_)
    repeat (first | refine x_kcg rfl ?_ | refine x_opp rfl rfl ?_ | refine x_go rfl ?_)
    exact x_aretN (hq2 hn)
  · obtain ⟨i, hi, rfl⟩ := in16 (nf_t h1) h16
    have hw : wantP M sf ls (nI i) = M.2.2 ls i := by
      unfold wantP
      rw [if_pos (nf_t h1), nI_clamp (by omega)]
    repeat (first | refine x_kcg rfl ?_ | refine x_opp rfl rfl ?_ | refine x_go rfl ?_ | refine m_getg hs.1 rfl rfl rfl ?_)
    refine m_aaldW hs.2.1 (vp_in_nI hi (by decide)) rfl ?_
    rw [nI_clamp (by omega)]
    cases hr : M.2.2 ls i with
    | none =>
      rw [hr] at hw
      show sm_X L xs (d + 2) _ _ _ _ [Value.null] _ _
      repeat (first | refine x_kcg rfl ?_ | refine x_opp rfl rfl ?_ | refine x_go rfl ?_ | refine m_getg hs.1 rfl rfl rfl ?_)
      refine x_ifnonN ?_
      repeat (first | refine x_kcg rfl ?_ | refine x_opp rfl rfl ?_ | refine x_go rfl ?_ | refine m_getg hs.1 rfl rfl rfl ?_)
      refine m_callV hs.2.2.2.1 rfl rfl rfl (c_find (k := 1) hs.2.2.2.1 hs.2.2.2.2.2.1 hs.2.2.2.2.2.2.1 (vp_in_nI (n := 1) (by decide) (by decide)) ?_)
      repeat (first | refine x_kcg rfl ?_ | refine x_opp rfl rfl ?_ | refine x_go rfl ?_)
      exact x_aretN (hq2 hw)
    | some a =>
      rw [hr] at hw
      show sm_X L xs (d + 2) _ _ _ _ [Value.ref a] _ _
      repeat (first | refine x_kcg rfl ?_ | refine x_opp rfl rfl ?_ | refine x_go rfl ?_ | refine m_getg hs.1 rfl rfl rfl ?_)
      refine x_ifnonR ?_
      repeat (first | refine x_kcg rfl ?_ | refine x_opp rfl rfl ?_ | refine x_go rfl ?_)
      exact x_aret (hq1 a hw)
end W1
