/-! the reference's small methods -/
def inR (v lo hi : Int32) : Bool := if v < lo then false else if hi < v then false else true
theorem in_row {h r : Int32} (h0 : 0 ≤ h) : inR r 0 (h - 1) = gRow h r := by
  unfold inR gRow
  by_cases h1 : r < 0
  · rw [if_pos h1, if_pos h1]
  · rw [if_neg h1, if_neg h1]
    have e : (h - 1 < r) = (h ≤ r) := by
      apply propext
      rw [Int32.le_iff_toInt_le] at h0
      rw [Int32.lt_iff_toInt_lt, Int32.le_iff_toInt_le]
      have e0 : (0 : Int32).toInt = 0 := by decide
      have e1 : (1 : Int32).toInt = 1 := by decide
      have b1 := Int32.toInt_lt h
      have es : (h - 1).toInt = h.toInt - 1 := by
        rw [Int32.toInt_sub, e1]
        apply Int.bmod_eq_of_le <;> omega
      omega
    by_cases h2 : h ≤ r
    · rw [if_pos h2, if_pos (by rw [e]; exact h2)]
    · rw [if_neg h2, if_neg (by rw [e]; exact h2)]
theorem in_pl (ln c : Int32) : inR c 0 (ln - 1) = gPl ln c 1 := rfl
theorem in_grid (g : Int32) : inR g 0 3 = gRow 4 g := in_row (h := 4) (by decide)
def tld (M : mm_T) (s : Nat) : Int32 := M.1 70 s + (if M.1 71 s = 0 then 0 else 32) + (if M.1 72 s = 0 then 0 else 64)
def mL (M : mm_T) (G : Nat) : Nat → Int32 := fun i => M.1 69 (7 * G + i)
def mC (M : mm_T) (G : Nat) : Nat → Int32 := fun s => tld M (49 * G + s)
/-- what a grid of the reference keeps to -/
def mgOK (M : mm_T) (G : Nat) : Prop := (0 ≤ M.1 67 G ∧ M.1 67 G ≤ 7) ∧ (0 ≤ M.1 68 G ∧ M.1 68 G ≤ 7) ∧ ∀ i, i < 7 → -1 ≤ mL M G i ∧ mL M G i ≤ M.1 68 G
theorem mgOK_7 {M : mm_T} {G : Nat} (h : mgOK M G) : ∀ i, i < 7 → -1 ≤ mL M G i ∧ mL M G i ≤ 7 := fun i hi => ⟨(h.2.2 i hi).1, Int32.le_trans (h.2.2 i hi).2 h.2.1.2⟩
/-- the signs and bars of all squares -/
def msOK (M : mm_T) : Prop := ∀ s, s < 196 → (∃ n, n < 32 ∧ M.1 70 s = nI n) ∧ (M.1 71 s = 0 ∨ M.1 71 s = 1) ∧ (M.1 72 s = 0 ∨ M.1 72 s = 1)
theorem tld_dec : ∀ n, n < 32 → ∀ a b : Bool, ((nI n + (if a = true then 0 else 32) + (if b = true then 0 else 64)) &&& 31 = nI n) ∧ ((nI n + (if a = true then 0 else 32) + (if b = true then 0 else 64)) &&& 32 = if a = true then 0 else 32) ∧ ((nI n + (if a = true then 0 else 32) + (if b = true then 0 else 64)) &&& 64 = if b = true then 0 else 64) := by decide +kernel
theorem tld_3 {M : mm_T} (h : msOK M) {s : Nat} (hs : s < 196) : tld M s &&& 31 = M.1 70 s ∧ tld M s &&& 32 = (if M.1 71 s = 0 then 0 else 32) ∧ tld M s &&& 64 = (if M.1 72 s = 0 then 0 else 64) := by
  obtain ⟨⟨n, hn, e⟩, -, -⟩ := h s hs
  have k := tld_dec n hn (decide (M.1 71 s = 0)) (decide (M.1 72 s = 0))
  simp only [decide_eq_true_eq] at k
  unfold tld
  rw [e]
  exact k
theorem sq_eq (G i j : Nat) : 49 * nI G + 7 * nI i + nI j = nI (49 * G + (i * 7 + j)) := by
  rw [show (49 : Int32) = nI 49 from rfl, show (7 : Int32) = nI 7 from rfl, pk_mul, pk_mul, nI_add, nI_add, Nat.mul_comm 7 i, Nat.add_assoc]
theorem rw_eq (G i : Nat) : 7 * nI G + nI i = nI (7 * G + i) := by
  rw [show (7 : Int32) = nI 7 from rfl, pk_mul, nI_add]
theorem sv_eq (i j : Nat) : nI i * 7 + nI j = nI (i * 7 + j) := mul7 i j
section MA
variable {L : Nat} {xs : Nat → Int32} {d : Nat} {dy : List sh_T} {M : mm_T} {Q : Option Value → sm_W → Prop}
theorem k_in {v lo hi : Int32} (hq : Q (some (.int (zz (inR v lo hi)))) (wm (sh0 ++ dy) M)) : sm_E L xs (d + 1) 150 [.int v, .int lo, .int hi] (wm (sh0 ++ dy) M) Q := by
  refine e_intro rfl rfl ?_
  repeat' (first | refine x_kcg rfl ?_ | refine x_opp rfl rfl ?_ | refine x_go rfl ?_ | refine a_if rfl rfl br_eq (fun _ => ?_) (fun _ => ?_) | refine a_if rfl rfl br_ne (fun _ => ?_) (fun _ => ?_) | refine a_if rfl rfl br_lt (fun _ => ?_) (fun _ => ?_) | refine a_if rfl rfl br_ge (fun _ => ?_) (fun _ => ?_) | refine a_if rfl rfl br_gt (fun _ => ?_) (fun _ => ?_) | refine a_if rfl rfl br_le (fun _ => ?_) (fun _ => ?_) | refine a_ic rfl rfl br_eq (fun _ => ?_) (fun _ => ?_) | refine a_ic rfl rfl br_ne (fun _ => ?_) (fun _ => ?_) | refine a_ic rfl rfl br_lt (fun _ => ?_) (fun _ => ?_) | refine a_ic rfl rfl br_ge (fun _ => ?_) (fun _ => ?_) | refine a_ic rfl rfl br_gt (fun _ => ?_) (fun _ => ?_) | refine a_ic rfl rfl br_le (fun _ => ?_) (fun _ => ?_) | refine a_iret rfl rfl rfl ?_ | refine a_zret rfl rfl ?_ ?_ | refine a_lret rfl rfl ?_ | refine a_ret rfl rfl ?_)
  any_goals (first | exact zz_01 _ | exact Or.inl rfl | exact Or.inr rfl)
  all_goals (simp only [inR, *, if_true, if_false, zz_t, zz_f] at hq; exact hq)
theorem k_isGrid {v : Int32} (hq : Q (some (.int (zz (gRow 4 v)))) (wm (sh0 ++ dy) M)) : sm_E L xs (d + 2) 149 [.int v] (wm (sh0 ++ dy) M) Q := by
  rw [← in_grid] at hq
  refine e_intro rfl rfl ?_
  repeat' (first | refine x_kcg rfl ?_ | refine x_opp rfl rfl ?_ | refine x_go rfl ?_ | refine a_callS rfl rfl rfl rfl (k_in ?_) | refine a_if rfl rfl br_eq (fun _ => ?_) (fun _ => ?_) | refine a_if rfl rfl br_ne (fun _ => ?_) (fun _ => ?_) | refine a_if rfl rfl br_lt (fun _ => ?_) (fun _ => ?_) | refine a_if rfl rfl br_ge (fun _ => ?_) (fun _ => ?_) | refine a_if rfl rfl br_gt (fun _ => ?_) (fun _ => ?_) | refine a_if rfl rfl br_le (fun _ => ?_) (fun _ => ?_) | refine a_ic rfl rfl br_eq (fun _ => ?_) (fun _ => ?_) | refine a_ic rfl rfl br_ne (fun _ => ?_) (fun _ => ?_) | refine a_ic rfl rfl br_lt (fun _ => ?_) (fun _ => ?_) | refine a_ic rfl rfl br_ge (fun _ => ?_) (fun _ => ?_) | refine a_ic rfl rfl br_gt (fun _ => ?_) (fun _ => ?_) | refine a_ic rfl rfl br_le (fun _ => ?_) (fun _ => ?_) | refine a_iret rfl rfl rfl ?_ | refine a_zret rfl rfl ?_ ?_ | refine a_lret rfl rfl ?_ | refine a_ret rfl rfl ?_)
  any_goals (first | exact zz_01 _ | exact Or.inl rfl | exact Or.inr rfl)
  exact hq
set_option maxRecDepth 4000 in
theorem k_isList {v : Int32} (h0 : 0 ≤ M.1 65 9) (hq : Q (some (.int (zz (gRow (M.1 65 9) v)))) (wm (sh0 ++ dy) M)) : sm_E L xs (d + 2) 163 [.ref 65, .int v] (wm (sh0 ++ dy) M) Q := by
  rw [← in_row h0] at hq
  refine e_intro rfl rfl ?_
  repeat' (first | refine x_kcg rfl ?_ | refine x_opp rfl rfl ?_ | refine x_go rfl ?_ | refine m_getg (s_65 dy) rfl rfl rfl ?_ | refine a_callS rfl rfl rfl rfl (k_in ?_) | refine a_putI (s_65 dy) rfl rfl rfl ?_ | refine a_putL (s_65 dy) rfl rfl rfl ?_ | refine a_if rfl rfl br_eq (fun _ => ?_) (fun _ => ?_) | refine a_if rfl rfl br_ne (fun _ => ?_) (fun _ => ?_) | refine a_if rfl rfl br_lt (fun _ => ?_) (fun _ => ?_) | refine a_if rfl rfl br_ge (fun _ => ?_) (fun _ => ?_) | refine a_if rfl rfl br_gt (fun _ => ?_) (fun _ => ?_) | refine a_if rfl rfl br_le (fun _ => ?_) (fun _ => ?_) | refine a_ic rfl rfl br_eq (fun _ => ?_) (fun _ => ?_) | refine a_ic rfl rfl br_ne (fun _ => ?_) (fun _ => ?_) | refine a_ic rfl rfl br_lt (fun _ => ?_) (fun _ => ?_) | refine a_ic rfl rfl br_ge (fun _ => ?_) (fun _ => ?_) | refine a_ic rfl rfl br_gt (fun _ => ?_) (fun _ => ?_) | refine a_ic rfl rfl br_le (fun _ => ?_) (fun _ => ?_) | refine a_iret rfl rfl rfl ?_ | refine a_zret rfl rfl ?_ ?_ | refine a_lret rfl rfl ?_ | refine a_ret rfl rfl ?_)
  any_goals (first | exact zz_01 _ | exact Or.inl rfl | exact Or.inr rfl)
  exact hq
def mMet (M : mm_T) (v : Int32) : mm_T := m_setI (m_setI M 65 19 v) 84 v.toNatClampNeg (M.1 84 v.toNatClampNeg + 1)
set_option maxRecDepth 4000 in
theorem k_met {v : Int32} (hv : vp_in v 6) (hq : Q (some (.int (-10 - v))) (wm (sh0 ++ dy) (mMet M v))) : sm_E L xs (d + 1) 151 [.ref 65, .int v] (wm (sh0 ++ dy) M) Q := by
  refine e_intro rfl rfl ?_
  repeat' (first | refine x_kcg rfl ?_ | refine x_opp rfl rfl ?_ | refine x_go rfl ?_ | refine m_getg (s_65 dy) rfl rfl rfl ?_ | refine a_putI (s_65 dy) rfl rfl rfl ?_ | refine a_putL (s_65 dy) rfl rfl rfl ?_ | refine a_iald (s_84 dy) rfl rfl ?_ ?_ | refine a_bald (s_84 dy) rfl rfl ?_ ?_ | refine a_lald (s_84 dy) rfl rfl ?_ ?_ | refine a_iast (s_84 dy) rfl rfl ?_ ?_ | refine a_last (s_84 dy) rfl rfl ?_ ?_ | refine a_bast (s_84 dy) rfl rfl ?_ ?_ ?_ | refine a_if rfl rfl br_eq (fun _ => ?_) (fun _ => ?_) | refine a_if rfl rfl br_ne (fun _ => ?_) (fun _ => ?_) | refine a_if rfl rfl br_lt (fun _ => ?_) (fun _ => ?_) | refine a_if rfl rfl br_ge (fun _ => ?_) (fun _ => ?_) | refine a_if rfl rfl br_gt (fun _ => ?_) (fun _ => ?_) | refine a_if rfl rfl br_le (fun _ => ?_) (fun _ => ?_) | refine a_ic rfl rfl br_eq (fun _ => ?_) (fun _ => ?_) | refine a_ic rfl rfl br_ne (fun _ => ?_) (fun _ => ?_) | refine a_ic rfl rfl br_lt (fun _ => ?_) (fun _ => ?_) | refine a_ic rfl rfl br_ge (fun _ => ?_) (fun _ => ?_) | refine a_ic rfl rfl br_gt (fun _ => ?_) (fun _ => ?_) | refine a_ic rfl rfl br_le (fun _ => ?_) (fun _ => ?_) | refine a_iret rfl rfl rfl ?_ | refine a_zret rfl rfl ?_ ?_ | refine a_lret rfl rfl ?_ | refine a_ret rfl rfl ?_)
  · exact hv
  · exact hv
  · exact hq
set_option maxRecDepth 4000 in
theorem k_metLong {v : Int32} (hv : vp_in v 6) (hq : Q (some (.long 0)) (wm (sh0 ++ dy) (mMet M v))) : sm_E L xs (d + 2) 180 [.ref 65, .int v] (wm (sh0 ++ dy) M) Q := by
  refine e_intro rfl rfl ?_
  repeat' (first | refine x_kcg rfl ?_ | refine x_opp rfl rfl ?_ | refine x_go rfl ?_ | refine m_getg (s_65 dy) rfl rfl rfl ?_ | refine a_callV (s_65 dy) rfl rfl rfl rfl (k_met hv ?_) | refine a_putI (s_65 dy) rfl rfl rfl ?_ | refine a_putL (s_65 dy) rfl rfl rfl ?_ | refine a_if rfl rfl br_eq (fun _ => ?_) (fun _ => ?_) | refine a_if rfl rfl br_ne (fun _ => ?_) (fun _ => ?_) | refine a_if rfl rfl br_lt (fun _ => ?_) (fun _ => ?_) | refine a_if rfl rfl br_ge (fun _ => ?_) (fun _ => ?_) | refine a_if rfl rfl br_gt (fun _ => ?_) (fun _ => ?_) | refine a_if rfl rfl br_le (fun _ => ?_) (fun _ => ?_) | refine a_ic rfl rfl br_eq (fun _ => ?_) (fun _ => ?_) | refine a_ic rfl rfl br_ne (fun _ => ?_) (fun _ => ?_) | refine a_ic rfl rfl br_lt (fun _ => ?_) (fun _ => ?_) | refine a_ic rfl rfl br_ge (fun _ => ?_) (fun _ => ?_) | refine a_ic rfl rfl br_gt (fun _ => ?_) (fun _ => ?_) | refine a_ic rfl rfl br_le (fun _ => ?_) (fun _ => ?_) | refine a_iret rfl rfl rfl ?_ | refine a_zret rfl rfl ?_ ?_ | refine a_lret rfl rfl ?_ | refine a_ret rfl rfl ?_)
  exact hq
set_option maxRecDepth 4000 in
theorem k_changed (hq : Q none (wm (sh0 ++ dy) (m_setI M 65 38 0))) : sm_E L xs (d + 1) 152 [.ref 65] (wm (sh0 ++ dy) M) Q := by
  refine e_intro rfl rfl ?_
  repeat' (first | refine x_kcg rfl ?_ | refine x_opp rfl rfl ?_ | refine x_go rfl ?_ | refine m_getg (s_65 dy) rfl rfl rfl ?_ | refine a_putI (s_65 dy) rfl rfl rfl ?_ | refine a_putL (s_65 dy) rfl rfl rfl ?_ | refine a_if rfl rfl br_eq (fun _ => ?_) (fun _ => ?_) | refine a_if rfl rfl br_ne (fun _ => ?_) (fun _ => ?_) | refine a_if rfl rfl br_lt (fun _ => ?_) (fun _ => ?_) | refine a_if rfl rfl br_ge (fun _ => ?_) (fun _ => ?_) | refine a_if rfl rfl br_gt (fun _ => ?_) (fun _ => ?_) | refine a_if rfl rfl br_le (fun _ => ?_) (fun _ => ?_) | refine a_ic rfl rfl br_eq (fun _ => ?_) (fun _ => ?_) | refine a_ic rfl rfl br_ne (fun _ => ?_) (fun _ => ?_) | refine a_ic rfl rfl br_lt (fun _ => ?_) (fun _ => ?_) | refine a_ic rfl rfl br_ge (fun _ => ?_) (fun _ => ?_) | refine a_ic rfl rfl br_gt (fun _ => ?_) (fun _ => ?_) | refine a_ic rfl rfl br_le (fun _ => ?_) (fun _ => ?_) | refine a_iret rfl rfl rfl ?_ | refine a_zret rfl rfl ?_ ?_ | refine a_lret rfl rfl ?_ | refine a_ret rfl rfl ?_)
  exact hq
theorem k_square {g r c : Int32} (hq : Q (some (.int (49 * g + 7 * r + c))) (wm (sh0 ++ dy) M)) : sm_E L xs (d + 1) 157 [.int g, .int r, .int c] (wm (sh0 ++ dy) M) Q := by
  refine e_intro rfl rfl ?_
  repeat' (first | refine x_kcg rfl ?_ | refine x_opp rfl rfl ?_ | refine x_go rfl ?_ | refine a_if rfl rfl br_eq (fun _ => ?_) (fun _ => ?_) | refine a_if rfl rfl br_ne (fun _ => ?_) (fun _ => ?_) | refine a_if rfl rfl br_lt (fun _ => ?_) (fun _ => ?_) | refine a_if rfl rfl br_ge (fun _ => ?_) (fun _ => ?_) | refine a_if rfl rfl br_gt (fun _ => ?_) (fun _ => ?_) | refine a_if rfl rfl br_le (fun _ => ?_) (fun _ => ?_) | refine a_ic rfl rfl br_eq (fun _ => ?_) (fun _ => ?_) | refine a_ic rfl rfl br_ne (fun _ => ?_) (fun _ => ?_) | refine a_ic rfl rfl br_lt (fun _ => ?_) (fun _ => ?_) | refine a_ic rfl rfl br_ge (fun _ => ?_) (fun _ => ?_) | refine a_ic rfl rfl br_gt (fun _ => ?_) (fun _ => ?_) | refine a_ic rfl rfl br_le (fun _ => ?_) (fun _ => ?_) | refine a_iret rfl rfl rfl ?_ | refine a_zret rfl rfl ?_ ?_ | refine a_lret rfl rfl ?_ | refine a_ret rfl rfl ?_)
  exact hq
set_option maxRecDepth 4000 in
theorem k_rowOf {G i : Nat} (hG : G < 4) (hi : i < 7) (hq : Q (some (.int (mL M G i))) (wm (sh0 ++ dy) M)) : sm_E L xs (d + 1) 154 [.ref 65, .int (nI G), .int (nI i)] (wm (sh0 ++ dy) M) Q := by
  refine e_intro rfl rfl ?_
  repeat' (first | refine x_kcg rfl ?_ | refine x_opp rfl rfl ?_ | refine x_go rfl ?_ | refine m_getg (s_65 dy) rfl rfl rfl ?_ | refine a_putI (s_65 dy) rfl rfl rfl ?_ | refine a_putL (s_65 dy) rfl rfl rfl ?_ | refine a_iald (s_69 dy) rfl rfl ?_ ?_ | refine a_bald (s_69 dy) rfl rfl ?_ ?_ | refine a_lald (s_69 dy) rfl rfl ?_ ?_ | refine a_iast (s_69 dy) rfl rfl ?_ ?_ | refine a_last (s_69 dy) rfl rfl ?_ ?_ | refine a_bast (s_69 dy) rfl rfl ?_ ?_ ?_ | refine a_if rfl rfl br_eq (fun _ => ?_) (fun _ => ?_) | refine a_if rfl rfl br_ne (fun _ => ?_) (fun _ => ?_) | refine a_if rfl rfl br_lt (fun _ => ?_) (fun _ => ?_) | refine a_if rfl rfl br_ge (fun _ => ?_) (fun _ => ?_) | refine a_if rfl rfl br_gt (fun _ => ?_) (fun _ => ?_) | refine a_if rfl rfl br_le (fun _ => ?_) (fun _ => ?_) | refine a_ic rfl rfl br_eq (fun _ => ?_) (fun _ => ?_) | refine a_ic rfl rfl br_ne (fun _ => ?_) (fun _ => ?_) | refine a_ic rfl rfl br_lt (fun _ => ?_) (fun _ => ?_) | refine a_ic rfl rfl br_ge (fun _ => ?_) (fun _ => ?_) | refine a_ic rfl rfl br_gt (fun _ => ?_) (fun _ => ?_) | refine a_ic rfl rfl br_le (fun _ => ?_) (fun _ => ?_) | refine a_iret rfl rfl rfl ?_ | refine a_zret rfl rfl ?_ ?_ | refine a_lret rfl rfl ?_ | refine a_ret rfl rfl ?_)
  · rw [rw_eq]
    exact vp_in_nI (by omega) (by decide)
  · rw [rw_eq, nI_clamp (by omega)]
    exact hq
set_option maxRecDepth 4000 in
theorem k_told {s : Nat} (hs : s < 196) (hq : Q (some (.int (tld M s))) (wm (sh0 ++ dy) M)) : sm_E L xs (d + 1) 161 [.ref 65, .int (nI s)] (wm (sh0 ++ dy) M) Q := by
  have hv : vp_in (nI s) 196 := vp_in_nI hs (by decide)
  unfold tld at hq
  refine e_intro rfl rfl ?_
  repeat' (first | refine x_kcg rfl ?_ | refine x_opp rfl rfl ?_ | refine x_go rfl ?_ | refine m_getg (s_65 dy) rfl rfl rfl ?_ | refine a_putI (s_65 dy) rfl rfl rfl ?_ | refine a_putL (s_65 dy) rfl rfl rfl ?_ | refine a_iald (s_70 dy) rfl rfl ?_ ?_ | refine a_bald (s_70 dy) rfl rfl ?_ ?_ | refine a_lald (s_70 dy) rfl rfl ?_ ?_ | refine a_iast (s_70 dy) rfl rfl ?_ ?_ | refine a_last (s_70 dy) rfl rfl ?_ ?_ | refine a_bast (s_70 dy) rfl rfl ?_ ?_ ?_ | refine a_iald (s_71 dy) rfl rfl ?_ ?_ | refine a_bald (s_71 dy) rfl rfl ?_ ?_ | refine a_lald (s_71 dy) rfl rfl ?_ ?_ | refine a_iast (s_71 dy) rfl rfl ?_ ?_ | refine a_last (s_71 dy) rfl rfl ?_ ?_ | refine a_bast (s_71 dy) rfl rfl ?_ ?_ ?_ | refine a_iald (s_72 dy) rfl rfl ?_ ?_ | refine a_bald (s_72 dy) rfl rfl ?_ ?_ | refine a_lald (s_72 dy) rfl rfl ?_ ?_ | refine a_iast (s_72 dy) rfl rfl ?_ ?_ | refine a_last (s_72 dy) rfl rfl ?_ ?_ | refine a_bast (s_72 dy) rfl rfl ?_ ?_ ?_ | refine a_if rfl rfl br_eq (fun _ => ?_) (fun _ => ?_) | refine a_if rfl rfl br_ne (fun _ => ?_) (fun _ => ?_) | refine a_if rfl rfl br_lt (fun _ => ?_) (fun _ => ?_) | refine a_if rfl rfl br_ge (fun _ => ?_) (fun _ => ?_) | refine a_if rfl rfl br_gt (fun _ => ?_) (fun _ => ?_) | refine a_if rfl rfl br_le (fun _ => ?_) (fun _ => ?_) | refine a_ic rfl rfl br_eq (fun _ => ?_) (fun _ => ?_) | refine a_ic rfl rfl br_ne (fun _ => ?_) (fun _ => ?_) | refine a_ic rfl rfl br_lt (fun _ => ?_) (fun _ => ?_) | refine a_ic rfl rfl br_ge (fun _ => ?_) (fun _ => ?_) | refine a_ic rfl rfl br_gt (fun _ => ?_) (fun _ => ?_) | refine a_ic rfl rfl br_le (fun _ => ?_) (fun _ => ?_) | refine a_iret rfl rfl rfl ?_ | refine a_zret rfl rfl ?_ ?_ | refine a_lret rfl rfl ?_ | refine a_ret rfl rfl ?_)
  any_goals exact hv
  all_goals (simp only [nI_clamp (show s < 2 ^ 31 by omega)] at *; simp only [*, if_true, if_false] at hq; exact hq)
end MA
