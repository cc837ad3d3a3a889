/-! the grid: more counting, the digest -/
def gEr (h : Int32) (ln cs : Nat → Int32) (v : Int32) (i : Nat) : Nat → Bool := fun j => gWh h ln cs (nI i) (nI j) && decide (gTh h ln cs (nI i) (nI j) = v)
def gEN (H : Nat) (h : Int32) (ln cs : Nat → Int32) (v : Int32) : Nat := sumN (fun i => cnt (gEr h ln cs v i) (ln i).toNatClampNeg) H
def gSN (H : Nat) (ln : Nat → Int32) : Nat := sumN (fun i => (ln i).toNatClampNeg) H
theorem max0 {x : Int32} (hm : -1 ≤ x) (h7 : x ≤ 7) : (if x < 0 then 0 else x) = nI x.toNatClampNeg := by
  rcases ln7 hm h7 with rfl | ⟨n, hn, rfl⟩
  · decide
  · rw [nI_clamp (by omega), if_neg (nI_pos (by omega))]
def dRow (cs : Nat → Int32) (i : Nat) (d0 : Int64) : Nat → Int64
  | 0 => d0
  | j + 1 => 31 * dRow cs i d0 j + (cs (i * 7 + j)).toInt64
def dAll (ln cs : Nat → Int32) : Nat → Int64
  | 0 => 7
  | i + 1 => dRow cs i (31 * dAll ln cs i + (ln i).toInt64) (ln i).toNatClampNeg
def any2 (p : Nat → Nat → Bool) (W : Nat) (H : Nat) : Bool := anyB (fun i => anyB (p i) W) H
def gHt (h w : Int32) (ln cs : Nat → Int32) (i j : Nat) : Bool := gWh h ln cs (nI i) (nI j) && !(gWh h ln cs (h - 1 - nI i) (w - 1 - nI j))
section G5
variable {L : Nat} {xs : Nat → Int32} {d : Nat} {sh : List sh_T} {M : mm_T} {Q : Option Value → sm_W → Prop} {g c l sp re : Nat}
theorem c_letters {H : Nat} (hg : gSh sh g c l sp re) (hk : gOK M g l) (hH : M.1 g 5 = nI H) (hH7 : H ≤ 7) (hq : Q (some (.int (nI (gLN H (M.1 l) (M.1 c))))) (wm sh M)) : sm_E L xs (d + 2) 123 [.ref g] (wm sh M) Q := by
  have hl := gOK_7 hk
  refine e_intro rfl rfl ?_
  repeat (first | refine x_kcg rfl ?_ | refine x_incg rfl rfl ?_ | refine x_opp rfl rfl ?_)
  refine x_fall ?_
  refine x_lvs [(0, .ref g), (1, .int (nI 0)), (2, .int (nI 0))] rfl rfl rfl ⟨rfl, rfl, rfl, trivial⟩ ?_
  refine loop_dn (P := fun i => sm_X L xs (d + 1) 123 1 (sm_code 123 1) [(0, .ref g), (1, .int (nI (gLN i (M.1 l) (M.1 c)))), (2, .int (nI i))] [] (wm sh M) Q) H ?_ ?_
  · repeat (first | refine x_kcg rfl ?_ | refine x_opp rfl rfl ?_ | refine x_go rfl ?_ | refine m_getg hg.1 rfl rfl rfl ?_)
    rw [hH]
    refine x_icm br_ge (fun _ => ?_) (fun h1 => absurd (nI_le (Nat.le_refl H) (by omega)) h1)
    repeat (first | refine x_kcg rfl ?_ | refine x_opp rfl rfl ?_ | refine x_go rfl ?_)
    exact x_iret rfl hq
  · intro i hi hP
    have hi7 : i < 7 := by omega
    repeat (first | refine x_kcg rfl ?_ | refine x_opp rfl rfl ?_ | refine x_go rfl ?_ | refine m_getg hg.1 rfl rfl rfl ?_)
    rw [hH]
    refine x_icm br_ge (fun h1 => absurd h1 (nI_ge hi (by omega))) (fun _ => ?_)
    repeat (first | refine x_kcg rfl ?_ | refine x_incg rfl rfl ?_ | refine x_opp rfl rfl ?_)
    refine x_fall ?_
    refine x_lvs [(0, .ref g), (1, .int (nI (gLN i (M.1 l) (M.1 c) + cnt (gLr (M.1 c) i) 0))), (2, .int (nI i)), (3, .int (nI 0))] rfl rfl rfl ⟨rfl, rfl, rfl, rfl, trivial⟩ ?_
    refine loop_dn (P := fun j => sm_X L xs (d + 1) 123 3 (sm_code 123 3) [(0, .ref g), (1, .int (nI (gLN i (M.1 l) (M.1 c) + cnt (gLr (M.1 c) i) j))), (2, .int (nI i)), (3, .int (nI j))] [] (wm sh M) Q) (M.1 l i).toNatClampNeg ?_ ?_
    · have hc7 := ln_cl (hl i hi7).1 (hl i hi7).2
      repeat (first | refine x_kcg rfl ?_ | refine x_opp rfl rfl ?_ | refine x_go rfl ?_ | refine m_getg hg.1 rfl rfl rfl ?_)
      refine m_iald hg.2.2.1 (in7 hi7) ?_
      rw [nI_clamp (by omega)]
      refine x_icm br_ge (fun _ => ?_) (fun h1 => absurd (ln_ge (hl i hi7).1 (hl i hi7).2 (Nat.le_refl _) hc7) h1)
      repeat (first | refine x_kcg rfl ?_ | refine x_incg rfl rfl ?_ | refine x_opp rfl rfl ?_)
      refine x_goto ?_
      refine x_lvs [(0, .ref g), (1, .int (nI (gLN (i + 1) (M.1 l) (M.1 c)))), (2, .int (nI (i + 1)))] rfl rfl rfl ⟨rfl, rfl, rfl, trivial⟩ ?_
      exact hP
    · intro j hj hP2
      have hj7 : j < 7 := Nat.lt_of_lt_of_le hj (ln_cl (hl i hi7).1 (hl i hi7).2)
      have no : gLr (M.1 c) i j = false → sm_X L xs (d + 1) 123 7 (sm_code 123 7) [(0, .ref g), (1, .int (nI (gLN i (M.1 l) (M.1 c) + cnt (gLr (M.1 c) i) j))), (2, .int (nI i)), (3, .int (nI j))] [] (wm sh M) Q := by
        intro hf
        rw [cnt_f hf] at hP2
        repeat (first | refine x_kcg rfl ?_ | refine x_incg rfl rfl ?_ | refine x_opp rfl rfl ?_)
        refine x_goto ?_
        refine x_lvs [(0, .ref g), (1, .int (nI (gLN i (M.1 l) (M.1 c) + cnt (gLr (M.1 c) i) j))), (2, .int (nI i)), (3, .int (nI (j + 1)))] rfl rfl rfl ⟨rfl, rfl, rfl, rfl, trivial⟩ ?_
        exact hP2
      repeat (first | refine x_kcg rfl ?_ | refine x_opp rfl rfl ?_ | refine x_go rfl ?_ | refine m_getg hg.1 rfl rfl rfl ?_)
      refine m_iald hg.2.2.1 (in7 hi7) ?_
      rw [nI_clamp (by omega)]
      refine x_icm br_ge (fun h1 => absurd h1 (ln_lt (hl i hi7).1 (hl i hi7).2 hj)) (fun _ => ?_)
      repeat (first | refine x_kcg rfl ?_ | refine x_opp rfl rfl ?_ | refine x_go rfl ?_ | refine m_getg hg.1 rfl rfl rfl ?_)
      refine m_callV hg.1 rfl rfl rfl (c_signOf hg.1 hg.2.1 (in49 hi7 hj7) ?_)
      rw [mul7, nI_clamp (by omega)]
      repeat (first | refine x_kcg rfl ?_ | refine x_opp rfl rfl ?_ | refine x_go rfl ?_)
      refine x_icm br_lt (fun h2 => ?_) (fun h2 => ?_)
      · refine no ?_
        unfold gLr
        rw [decide_eq_false (Int32.not_le.mpr h2)]
        rfl
      · repeat (first | refine x_kcg rfl ?_ | refine x_opp rfl rfl ?_ | refine x_go rfl ?_ | refine m_getg hg.1 rfl rfl rfl ?_)
        refine m_callV hg.1 rfl rfl rfl (c_signOf hg.1 hg.2.1 (in49 hi7 hj7) ?_)
        rw [mul7, nI_clamp (by omega)]
        repeat (first | refine x_kcg rfl ?_ | refine x_opp rfl rfl ?_ | refine x_go rfl ?_)
        refine x_icm br_gt (fun h3 => ?_) (fun h3 => ?_)
        · refine no ?_
          unfold gLr
          rw [decide_eq_false (Int32.not_le.mpr h3), Bool.and_false]
        · have ht : gLr (M.1 c) i j = true := by
            unfold gLr
            rw [decide_eq_true (Int32.not_lt.mp h2), decide_eq_true (Int32.not_lt.mp h3)]
            rfl
          rw [cnt_t ht] at hP2
          repeat (first | refine x_kcg rfl ?_ | refine x_incg rfl rfl ?_ | refine x_opp rfl rfl ?_)
          refine x_fall ?_
          repeat (first | refine x_kcg rfl ?_ | refine x_incg rfl rfl ?_ | refine x_opp rfl rfl ?_)
          refine x_goto ?_
          refine x_lvs [(0, .ref g), (1, .int (nI (gLN i (M.1 l) (M.1 c) + (cnt (gLr (M.1 c) i) j + 1)))), (2, .int (nI i)), (3, .int (nI (j + 1)))] rfl rfl rfl ⟨rfl, rfl, rfl, rfl, trivial⟩ ?_
          exact hP2
theorem c_whitesInEntries {H : Nat} {v : Int32} (hg : gSh sh g c l sp re) (hk : gOK M g l) (hH : M.1 g 5 = nI H) (hH7 : H ≤ 7) (hq : Q (some (.int (nI (gEN H (M.1 g 5) (M.1 l) (M.1 c) v)))) (wm sh M)) : sm_E L xs (d + 5) 116 [.ref g, .int v] (wm sh M) Q := by
  have hl := gOK_7 hk
  refine e_intro rfl rfl ?_
  repeat (first | refine x_kcg rfl ?_ | refine x_incg rfl rfl ?_ | refine x_opp rfl rfl ?_)
  refine x_fall ?_
  refine x_lvs [(0, .ref g), (1, .int v), (2, .int (nI 0)), (3, .int (nI 0))] rfl rfl rfl ⟨rfl, rfl, rfl, rfl, trivial⟩ ?_
  refine loop_dn (P := fun i => sm_X L xs (d + 4) 116 1 (sm_code 116 1) [(0, .ref g), (1, .int v), (2, .int (nI (gEN i (M.1 g 5) (M.1 l) (M.1 c) v))), (3, .int (nI i))] [] (wm sh M) Q) H ?_ ?_
  · repeat (first | refine x_kcg rfl ?_ | refine x_opp rfl rfl ?_ | refine x_go rfl ?_ | refine m_getg hg.1 rfl rfl rfl ?_)
    rw [hH]
    refine x_icm br_ge (fun _ => ?_) (fun h1 => absurd (nI_le (Nat.le_refl H) (by omega)) h1)
    repeat (first | refine x_kcg rfl ?_ | refine x_opp rfl rfl ?_ | refine x_go rfl ?_)
    rw [hH] at hq
    exact x_iret rfl hq
  · intro i hi hP
    have hi7 : i < 7 := by omega
    repeat (first | refine x_kcg rfl ?_ | refine x_opp rfl rfl ?_ | refine x_go rfl ?_ | refine m_getg hg.1 rfl rfl rfl ?_)
    refine x_icm br_ge (fun h1 => absurd h1 (by rw [hH]; exact nI_ge hi (by omega))) (fun _ => ?_)
    repeat (first | refine x_kcg rfl ?_ | refine x_incg rfl rfl ?_ | refine x_opp rfl rfl ?_)
    refine x_fall ?_
    refine x_lvs [(0, .ref g), (1, .int v), (2, .int (nI (gEN i (M.1 g 5) (M.1 l) (M.1 c) v + cnt (gEr (M.1 g 5) (M.1 l) (M.1 c) v i) 0))), (3, .int (nI i)), (4, .int (nI 0))] rfl rfl rfl ⟨rfl, rfl, rfl, rfl, rfl, trivial⟩ ?_
    refine loop_dn (P := fun j => sm_X L xs (d + 4) 116 3 (sm_code 116 3) [(0, .ref g), (1, .int v), (2, .int (nI (gEN i (M.1 g 5) (M.1 l) (M.1 c) v + cnt (gEr (M.1 g 5) (M.1 l) (M.1 c) v i) j))), (3, .int (nI i)), (4, .int (nI j))] [] (wm sh M) Q) (M.1 l i).toNatClampNeg ?_ ?_
    · have hc7 := ln_cl (hl i hi7).1 (hl i hi7).2
      repeat (first | refine x_kcg rfl ?_ | refine x_opp rfl rfl ?_ | refine x_go rfl ?_ | refine m_getg hg.1 rfl rfl rfl ?_)
      refine m_iald hg.2.2.1 (in7 hi7) ?_
      rw [nI_clamp (by omega)]
      refine x_icm br_ge (fun _ => ?_) (fun h1 => absurd (ln_ge (hl i hi7).1 (hl i hi7).2 (Nat.le_refl _) hc7) h1)
      repeat (first | refine x_kcg rfl ?_ | refine x_incg rfl rfl ?_ | refine x_opp rfl rfl ?_)
      refine x_goto ?_
      refine x_lvs [(0, .ref g), (1, .int v), (2, .int (nI (gEN (i + 1) (M.1 g 5) (M.1 l) (M.1 c) v))), (3, .int (nI (i + 1)))] rfl rfl rfl ⟨rfl, rfl, rfl, rfl, trivial⟩ ?_
      exact hP
    · intro j hj hP2
      have hj7 : j < 7 := Nat.lt_of_lt_of_le hj (ln_cl (hl i hi7).1 (hl i hi7).2)
      have no : gEr (M.1 g 5) (M.1 l) (M.1 c) v i j = false → sm_X L xs (d + 4) 116 7 (sm_code 116 7) [(0, .ref g), (1, .int v), (2, .int (nI (gEN i (M.1 g 5) (M.1 l) (M.1 c) v + cnt (gEr (M.1 g 5) (M.1 l) (M.1 c) v i) j))), (3, .int (nI i)), (4, .int (nI j))] [] (wm sh M) Q := by
        intro hf
        rw [cnt_f hf] at hP2
        repeat (first | refine x_kcg rfl ?_ | refine x_incg rfl rfl ?_ | refine x_opp rfl rfl ?_)
        refine x_goto ?_
        refine x_lvs [(0, .ref g), (1, .int v), (2, .int (nI (gEN i (M.1 g 5) (M.1 l) (M.1 c) v + cnt (gEr (M.1 g 5) (M.1 l) (M.1 c) v i) j))), (3, .int (nI i)), (4, .int (nI (j + 1)))] rfl rfl rfl ⟨rfl, rfl, rfl, rfl, rfl, trivial⟩ ?_
        exact hP2
      repeat (first | refine x_kcg rfl ?_ | refine x_opp rfl rfl ?_ | refine x_go rfl ?_ | refine m_getg hg.1 rfl rfl rfl ?_)
      refine m_iald hg.2.2.1 (in7 hi7) ?_
      rw [nI_clamp (by omega)]
      refine x_icm br_ge (fun h1 => absurd h1 (ln_lt (hl i hi7).1 (hl i hi7).2 hj)) (fun _ => ?_)
      repeat (first | refine x_kcg rfl ?_ | refine x_opp rfl rfl ?_ | refine x_go rfl ?_ | refine m_getg hg.1 rfl rfl rfl ?_)
      refine m_callV hg.1 rfl rfl rfl (c_white hg hk ?_)
      refine x_ifc br_eqz (fun h2 => ?_) (fun h2 => ?_)
      · refine no ?_
        unfold gEr
        rw [h2]
        rfl
      · repeat (first | refine x_kcg rfl ?_ | refine x_opp rfl rfl ?_ | refine x_go rfl ?_ | refine m_getg hg.1 rfl rfl rfl ?_)
        refine m_callV hg.1 rfl rfl rfl (c_entriesThrough hg hk ?_)
        repeat (first | refine x_kcg rfl ?_ | refine x_opp rfl rfl ?_ | refine x_go rfl ?_)
        refine x_icm br_ne (fun h3 => ?_) (fun h3 => ?_)
        · refine no ?_
          unfold gEr
          rw [decide_eq_false h3, Bool.and_false]
        · have ht : gEr (M.1 g 5) (M.1 l) (M.1 c) v i j = true := by
            unfold gEr
            rw [nf_t h2, decide_eq_true (Decidable.not_not.mp h3)]
            rfl
          rw [cnt_t ht] at hP2
          repeat (first | refine x_kcg rfl ?_ | refine x_incg rfl rfl ?_ | refine x_opp rfl rfl ?_)
          refine x_fall ?_
          repeat (first | refine x_kcg rfl ?_ | refine x_incg rfl rfl ?_ | refine x_opp rfl rfl ?_)
          refine x_goto ?_
          refine x_lvs [(0, .ref g), (1, .int v), (2, .int (nI (gEN i (M.1 g 5) (M.1 l) (M.1 c) v + (cnt (gEr (M.1 g 5) (M.1 l) (M.1 c) v i) j + 1)))), (3, .int (nI i)), (4, .int (nI (j + 1)))] rfl rfl rfl ⟨rfl, rfl, rfl, rfl, rfl, trivial⟩ ?_
          exact hP2
theorem c_squares {H : Nat} (hg : gSh sh g c l sp re) (hk : gOK M g l) (hH : M.1 g 5 = nI H) (hH7 : H ≤ 7) (hq : Q (some (.int (nI (gSN H (M.1 l))))) (wm sh M)) : sm_E L xs (d + 2) 113 [.ref g] (wm sh M) Q := by
  have hl := gOK_7 hk
  refine e_intro rfl rfl ?_
  repeat (first | refine x_kcg rfl ?_ | refine x_incg rfl rfl ?_ | refine x_opp rfl rfl ?_)
  refine x_fall ?_
  refine x_lvs [(0, .ref g), (1, .int (nI 0)), (2, .int (nI 0))] rfl rfl rfl ⟨rfl, rfl, rfl, trivial⟩ ?_
  refine loop_dn (P := fun i => sm_X L xs (d + 1) 113 1 (sm_code 113 1) [(0, .ref g), (1, .int (nI (gSN i (M.1 l)))), (2, .int (nI i))] [] (wm sh M) Q) H ?_ ?_
  · repeat (first | refine x_kcg rfl ?_ | refine x_opp rfl rfl ?_ | refine x_go rfl ?_ | refine m_getg hg.1 rfl rfl rfl ?_)
    rw [hH]
    refine x_icm br_ge (fun _ => ?_) (fun h1 => absurd (nI_le (Nat.le_refl H) (by omega)) h1)
    repeat (first | refine x_kcg rfl ?_ | refine x_opp rfl rfl ?_ | refine x_go rfl ?_)
    exact x_iret rfl hq
  · intro i hi hP
    have hi7 : i < 7 := by omega
    repeat (first | refine x_kcg rfl ?_ | refine x_opp rfl rfl ?_ | refine x_go rfl ?_ | refine m_getg hg.1 rfl rfl rfl ?_)
    rw [hH]
    refine x_icm br_ge (fun h1 => absurd h1 (nI_ge hi (by omega))) (fun _ => ?_)
    repeat (first | refine x_kcg rfl ?_ | refine x_opp rfl rfl ?_ | refine x_go rfl ?_ | refine m_getg hg.1 rfl rfl rfl ?_)
    refine m_iald hg.2.2.1 (in7 hi7) ?_
    rw [nI_clamp (by omega)]
    repeat (first | refine x_kcg rfl ?_ | refine x_opp rfl rfl ?_ | refine x_go rfl ?_)
    refine m_callS rfl rfl (c_max ?_)
    rw [max0 (hl i hi7).1 (hl i hi7).2]
    repeat (first | refine x_kcg rfl ?_ | refine x_incg rfl rfl ?_ | refine x_opp rfl rfl ?_)
    rw [nI_add]
    refine x_goto ?_
    refine x_lvs [(0, .ref g), (1, .int (nI (gSN (i + 1) (M.1 l)))), (2, .int (nI (i + 1)))] rfl rfl rfl ⟨rfl, rfl, rfl, trivial⟩ ?_
    exact hP
theorem c_sum {H : Nat} (hg : gSh sh g c l sp re) (hk : gOK M g l) (hH : M.1 g 5 = nI H) (hH7 : H ≤ 7) (hq : Q (some (.long (dAll (M.1 l) (M.1 c) H))) (wm sh M)) : sm_E L xs (d + 1) 143 [.ref g] (wm sh M) Q := by
  have hl := gOK_7 hk
  refine e_intro rfl rfl ?_
  repeat (first | refine x_kcg rfl ?_ | refine x_incg rfl rfl ?_ | refine x_opp rfl rfl ?_)
  refine x_fall ?_
  refine x_lvs [(0, .ref g), (1, .long (dAll (M.1 l) (M.1 c) 0)), (3, .int (nI 0))] rfl rfl rfl ⟨rfl, rfl, rfl, trivial⟩ ?_
  refine loop_dn (P := fun i => sm_X L xs d 143 1 (sm_code 143 1) [(0, .ref g), (1, .long (dAll (M.1 l) (M.1 c) i)), (3, .int (nI i))] [] (wm sh M) Q) H ?_ ?_
  · repeat (first | refine x_kcg rfl ?_ | refine x_opp rfl rfl ?_ | refine x_go rfl ?_ | refine m_getg hg.1 rfl rfl rfl ?_)
    rw [hH]
    refine x_icm br_ge (fun _ => ?_) (fun h1 => absurd (nI_le (Nat.le_refl H) (by omega)) h1)
    repeat (first | refine x_kcg rfl ?_ | refine x_opp rfl rfl ?_ | refine x_go rfl ?_)
    exact x_lret hq
  · intro i hi hP
    have hi7 : i < 7 := by omega
    repeat (first | refine x_kcg rfl ?_ | refine x_opp rfl rfl ?_ | refine x_go rfl ?_ | refine m_getg hg.1 rfl rfl rfl ?_)
    rw [hH]
    refine x_icm br_ge (fun h1 => absurd h1 (nI_ge hi (by omega))) (fun _ => ?_)
    repeat (first | refine x_kcg rfl ?_ | refine x_opp rfl rfl ?_ | refine x_go rfl ?_ | refine m_getg hg.1 rfl rfl rfl ?_)
    refine m_iald hg.2.2.1 (in7 hi7) ?_
    rw [nI_clamp (by omega)]
    repeat (first | refine x_kcg rfl ?_ | refine x_incg rfl rfl ?_ | refine x_opp rfl rfl ?_)
    refine x_fall ?_
    refine x_lvs [(0, .ref g), (1, .long (dRow (M.1 c) i (31 * dAll (M.1 l) (M.1 c) i + (M.1 l i).toInt64) 0)), (3, .int (nI i)), (4, .int (nI 0))] rfl rfl rfl ⟨rfl, rfl, rfl, rfl, trivial⟩ ?_
    refine loop_dn (P := fun j => sm_X L xs d 143 3 (sm_code 143 3) [(0, .ref g), (1, .long (dRow (M.1 c) i (31 * dAll (M.1 l) (M.1 c) i + (M.1 l i).toInt64) j)), (3, .int (nI i)), (4, .int (nI j))] [] (wm sh M) Q) (M.1 l i).toNatClampNeg ?_ ?_
    · have hc7 := ln_cl (hl i hi7).1 (hl i hi7).2
      repeat (first | refine x_kcg rfl ?_ | refine x_opp rfl rfl ?_ | refine x_go rfl ?_ | refine m_getg hg.1 rfl rfl rfl ?_)
      refine m_iald hg.2.2.1 (in7 hi7) ?_
      rw [nI_clamp (by omega)]
      refine x_icm br_ge (fun _ => ?_) (fun h1 => absurd (ln_ge (hl i hi7).1 (hl i hi7).2 (Nat.le_refl _) hc7) h1)
      repeat (first | refine x_kcg rfl ?_ | refine x_incg rfl rfl ?_ | refine x_opp rfl rfl ?_)
      refine x_goto ?_
      refine x_lvs [(0, .ref g), (1, .long (dAll (M.1 l) (M.1 c) (i + 1))), (3, .int (nI (i + 1)))] rfl rfl rfl ⟨rfl, rfl, rfl, trivial⟩ ?_
      exact hP
    · intro j hj hP2
      have hj7 : j < 7 := Nat.lt_of_lt_of_le hj (ln_cl (hl i hi7).1 (hl i hi7).2)
      repeat (first | refine x_kcg rfl ?_ | refine x_opp rfl rfl ?_ | refine x_go rfl ?_ | refine m_getg hg.1 rfl rfl rfl ?_)
      refine m_iald hg.2.2.1 (in7 hi7) ?_
      rw [nI_clamp (by omega)]
      refine x_icm br_ge (fun h1 => absurd h1 (ln_lt (hl i hi7).1 (hl i hi7).2 hj)) (fun _ => ?_)
      repeat (first | refine x_kcg rfl ?_ | refine x_opp rfl rfl ?_ | refine x_go rfl ?_ | refine m_getg hg.1 rfl rfl rfl ?_)
      refine m_iald hg.2.1 (in49 hi7 hj7) ?_
      rw [mul7, nI_clamp (by omega)]
      repeat (first | refine x_kcg rfl ?_ | refine x_incg rfl rfl ?_ | refine x_opp rfl rfl ?_)
      refine x_goto ?_
      refine x_lvs [(0, .ref g), (1, .long (dRow (M.1 c) i (31 * dAll (M.1 l) (M.1 c) i + (M.1 l i).toInt64) (j + 1))), (3, .int (nI i)), (4, .int (nI (j + 1)))] rfl rfl rfl ⟨rfl, rfl, rfl, rfl, trivial⟩ ?_
      exact hP2
theorem c_halfTurn {H Wd : Nat} (hg : gSh sh g c l sp re) (hk : gOK M g l) (hH : M.1 g 5 = nI H) (hH7 : H ≤ 7) (hW : M.1 g 6 = nI Wd) (hW7 : Wd ≤ 7) (hq : Q (some (.int (zz (!(any2 (gHt (M.1 g 5) (M.1 g 6) (M.1 l) (M.1 c)) Wd H))))) (wm sh M)) : sm_E L xs (d + 3) 122 [.ref g] (wm sh M) Q := by
  refine e_intro rfl rfl ?_
  repeat (first | refine x_kcg rfl ?_ | refine x_incg rfl rfl ?_ | refine x_opp rfl rfl ?_)
  refine x_fall ?_
  refine x_lvs [(0, .ref g), (1, .int (nI 0))] rfl rfl rfl ⟨rfl, rfl, trivial⟩ ?_
  refine loop_dn (P := fun i => (∀ a, a < i → anyB (gHt (M.1 g 5) (M.1 g 6) (M.1 l) (M.1 c) a) Wd = false) → sm_X L xs (d + 2) 122 1 (sm_code 122 1) [(0, .ref g), (1, .int (nI i))] [] (wm sh M) Q) H ?_ ?_ (fun a ha => absurd ha (Nat.not_lt_zero a))
  · intro hall
    repeat (first | refine x_kcg rfl ?_ | refine x_opp rfl rfl ?_ | refine x_go rfl ?_ | refine m_getg hg.1 rfl rfl rfl ?_)
    refine x_icm br_ge (fun _ => ?_) (fun h1 => absurd (by rw [hH]; exact nI_le (Nat.le_refl H) (by omega)) h1)
    repeat (first | refine x_kcg rfl ?_ | refine x_opp rfl rfl ?_ | refine x_go rfl ?_)
    refine x_zret (Or.inr rfl) ?_
    unfold any2 at hq
    rw [anyB_f hall] at hq
    exact hq
  · intro i hi hP hall
    repeat (first | refine x_kcg rfl ?_ | refine x_opp rfl rfl ?_ | refine x_go rfl ?_ | refine m_getg hg.1 rfl rfl rfl ?_)
    refine x_icm br_ge (fun h1 => absurd h1 (by rw [hH]; exact nI_ge hi (by omega))) (fun _ => ?_)
    repeat (first | refine x_kcg rfl ?_ | refine x_incg rfl rfl ?_ | refine x_opp rfl rfl ?_)
    refine x_fall ?_
    refine x_lvs [(0, .ref g), (1, .int (nI i)), (2, .int (nI 0))] rfl rfl rfl ⟨rfl, rfl, rfl, trivial⟩ ?_
    refine loop_dn (P := fun j => (∀ a, a < j → gHt (M.1 g 5) (M.1 g 6) (M.1 l) (M.1 c) i a = false) → sm_X L xs (d + 2) 122 3 (sm_code 122 3) [(0, .ref g), (1, .int (nI i)), (2, .int (nI j))] [] (wm sh M) Q) Wd ?_ ?_ (fun a ha => absurd ha (Nat.not_lt_zero a))
    · intro hall2
      repeat (first | refine x_kcg rfl ?_ | refine x_opp rfl rfl ?_ | refine x_go rfl ?_ | refine m_getg hg.1 rfl rfl rfl ?_)
      refine x_icm br_ge (fun _ => ?_) (fun h1 => absurd (by rw [hW]; exact nI_le (Nat.le_refl Wd) (by omega)) h1)
      repeat (first | refine x_kcg rfl ?_ | refine x_incg rfl rfl ?_ | refine x_opp rfl rfl ?_)
      refine x_goto ?_
      refine x_lvs [(0, .ref g), (1, .int (nI (i + 1)))] rfl rfl rfl ⟨rfl, rfl, trivial⟩ ?_
      refine hP (fun a ha => ?_)
      by_cases e : a = i
      · subst e
        exact anyB_f hall2
      · exact hall a (by omega)
    · intro j hj hP2 hall2
      have go : gHt (M.1 g 5) (M.1 g 6) (M.1 l) (M.1 c) i j = false → sm_X L xs (d + 2) 122 7 (sm_code 122 7) [(0, .ref g), (1, .int (nI i)), (2, .int (nI j))] [] (wm sh M) Q := by
        intro hf
        repeat (first | refine x_kcg rfl ?_ | refine x_incg rfl rfl ?_ | refine x_opp rfl rfl ?_)
        refine x_goto ?_
        refine x_lvs [(0, .ref g), (1, .int (nI i)), (2, .int (nI (j + 1)))] rfl rfl rfl ⟨rfl, rfl, rfl, trivial⟩ ?_
        refine hP2 (fun a ha => ?_)
        by_cases e : a = j
        · subst e
          exact hf
        · exact hall2 a (by omega)
      repeat (first | refine x_kcg rfl ?_ | refine x_opp rfl rfl ?_ | refine x_go rfl ?_ | refine m_getg hg.1 rfl rfl rfl ?_)
      refine x_icm br_ge (fun h1 => absurd h1 (by rw [hW]; exact nI_ge hj (by omega))) (fun _ => ?_)
      repeat (first | refine x_kcg rfl ?_ | refine x_opp rfl rfl ?_ | refine x_go rfl ?_ | refine m_getg hg.1 rfl rfl rfl ?_)
      refine m_callV hg.1 rfl rfl rfl (c_white hg hk ?_)
      refine x_ifc br_eqz (fun h2 => ?_) (fun h2 => ?_)
      · refine go ?_
        unfold gHt
        rw [h2]
        rfl
      · repeat (first | refine x_kcg rfl ?_ | refine x_opp rfl rfl ?_ | refine x_go rfl ?_ | refine m_getg hg.1 rfl rfl rfl ?_)
        refine m_callV hg.1 rfl rfl rfl (c_white hg hk ?_)
        refine x_ifc br_nez (fun h3 => ?_) (fun h3 => ?_)
        · refine go ?_
          unfold gHt
          rw [h3]
          simp
        · repeat (first | refine x_kcg rfl ?_ | refine x_opp rfl rfl ?_ | refine x_go rfl ?_)
          refine x_zret (Or.inl rfl) ?_
          unfold any2 at hq
          have hp : anyB (gHt (M.1 g 5) (M.1 g 6) (M.1 l) (M.1 c) i) Wd = true := anyB_t (i := j) (by unfold gHt; rw [nf_t h2, nt_f h3]; rfl) hj
          rw [anyB_t (p := fun i => anyB (gHt (M.1 g 5) (M.1 g 6) (M.1 l) (M.1 c) i) Wd) (i := i) hp hi] at hq
          exact hq
end G5
