/-! printed by wip/genlaw.py: the law's cases -/
section LC
variable {L : Nat} {xs : Nat → Int32} {t d : Nat} {dy : List sh_T} {M : mm_T} {Q : Option Value → sm_W → Prop}
abbrev lvL (t : Nat) : sm_L := [(0, .retAddr 0), (1, .ref 0), (2, .ref 65), (3, .int (nI (9 * t)))]
theorem x_scr {y cb i a : Nat} {is : List sm_I} {lv : sm_L} {st : List Value} {w : sm_W} {v : Int32} (e : v = nI i) (hi : i < L ∧ L ≤ 4608) (h : sm_X L xs d y cb is lv (.int (xs i) :: st) w Q) : sm_X L xs d y cb (.iaload :: is) lv (.int v :: .retAddr a :: st) w Q := by
  subst e
  refine x_op ?_ h
  simp only [sm_op]
  rw [nI_clamp (by omega), if_neg]
  rintro (q | q)
  · exact absurd (nI_pos' (n := i) (by omega)) (Int32.not_le.mpr q)
  · omega
set_option maxRecDepth 4000 in
theorem lw_grid (hd : 100 ≤ d) (hi : 9 * t + 9 ≤ L ∧ L ≤ 4608) (h : rR t dy M) (next : ∀ dy1 M1, rR (t + 1) dy1 M1 → sm_X L xs d 231 89 (sm_code 231 89) (lvL t) [] (wm (sh0 ++ dy1) M1) Q) : sm_X L xs d 231 3 (sm_code 231 3) (lvL t) [] (wm (sh0 ++ dy) M) Q := by
  refine x_opp rfl rfl ?_
  refine x_opp rfl rfl ?_
  refine x_opp rfl rfl ?_
  refine x_kcg rfl ?_
  refine x_opp rfl rfl ?_
  refine x_scr (nI_add (9 * t) 1) (by omega) ?_
  refine x_opp rfl rfl ?_
  refine x_opp rfl rfl ?_
  refine x_kcg rfl ?_
  refine x_opp rfl rfl ?_
  refine x_scr (nI_add (9 * t) 2) (by omega) ?_
  refine x_opp rfl rfl ?_
  refine x_opp rfl rfl ?_
  refine x_kcg rfl ?_
  refine x_opp rfl rfl ?_
  refine x_scr (nI_add (9 * t) 3) (by omega) ?_
  refine a_callV (s_0 dy) rfl rfl rfl rfl (e_mono (pr_I hd (by decide +kernel) (by decide) (p_grid h)) ?_)
  rintro _ _ ⟨x, dy1, M1, rfl, rfl, h2⟩
  refine x_opp rfl rfl ?_
  refine x_opp rfl rfl ?_
  refine x_opp rfl rfl ?_
  refine x_kcg rfl ?_
  refine x_opp rfl rfl ?_
  refine x_scr (nI_add (9 * t) 1) (by omega) ?_
  refine x_opp rfl rfl ?_
  refine x_opp rfl rfl ?_
  refine x_kcg rfl ?_
  refine x_opp rfl rfl ?_
  refine x_scr (nI_add (9 * t) 2) (by omega) ?_
  refine x_opp rfl rfl ?_
  refine x_opp rfl rfl ?_
  refine x_kcg rfl ?_
  refine x_opp rfl rfl ?_
  refine x_scr (nI_add (9 * t) 3) (by omega) ?_
  refine a_callV (s_65 dy1) rfl rfl rfl rfl (e_mono h2 ?_)
  rintro _ _ ⟨rfl, M2, rfl, hR2⟩
  refine a_icT rfl rfl br_eq rfl ?_
  exact next dy1 M2 hR2
set_option maxRecDepth 4000 in
theorem lw_cut (hd : 100 ≤ d) (hi : 9 * t + 9 ≤ L ∧ L ≤ 4608) (h : rR t dy M) (next : ∀ dy1 M1, rR (t + 1) dy1 M1 → sm_X L xs d 231 89 (sm_code 231 89) (lvL t) [] (wm (sh0 ++ dy1) M1) Q) : sm_X L xs d 231 5 (sm_code 231 5) (lvL t) [] (wm (sh0 ++ dy) M) Q := by
  refine x_opp rfl rfl ?_
  refine x_opp rfl rfl ?_
  refine x_opp rfl rfl ?_
  refine x_kcg rfl ?_
  refine x_opp rfl rfl ?_
  refine x_scr (nI_add (9 * t) 1) (by omega) ?_
  refine x_opp rfl rfl ?_
  refine x_opp rfl rfl ?_
  refine x_kcg rfl ?_
  refine x_opp rfl rfl ?_
  refine x_scr (nI_add (9 * t) 2) (by omega) ?_
  refine x_opp rfl rfl ?_
  refine x_opp rfl rfl ?_
  refine x_kcg rfl ?_
  refine x_opp rfl rfl ?_
  refine x_scr (nI_add (9 * t) 3) (by omega) ?_
  refine a_callV (s_0 dy) rfl rfl rfl rfl (e_mono (pr_I hd (by decide +kernel) (by decide) (p_cut h)) ?_)
  rintro _ _ ⟨x, dy1, M1, rfl, rfl, h2⟩
  refine x_opp rfl rfl ?_
  refine x_opp rfl rfl ?_
  refine x_opp rfl rfl ?_
  refine x_kcg rfl ?_
  refine x_opp rfl rfl ?_
  refine x_scr (nI_add (9 * t) 1) (by omega) ?_
  refine x_opp rfl rfl ?_
  refine x_opp rfl rfl ?_
  refine x_kcg rfl ?_
  refine x_opp rfl rfl ?_
  refine x_scr (nI_add (9 * t) 2) (by omega) ?_
  refine x_opp rfl rfl ?_
  refine x_opp rfl rfl ?_
  refine x_kcg rfl ?_
  refine x_opp rfl rfl ?_
  refine x_scr (nI_add (9 * t) 3) (by omega) ?_
  refine a_callV (s_65 dy1) rfl rfl rfl rfl (e_mono h2 ?_)
  rintro _ _ ⟨rfl, M2, rfl, hR2⟩
  refine a_icT rfl rfl br_eq rfl ?_
  exact next dy1 M2 hR2
set_option maxRecDepth 4000 in
theorem lw_letter (hd : 100 ≤ d) (hi : 9 * t + 9 ≤ L ∧ L ≤ 4608) (h : rR t dy M) (next : ∀ dy1 M1, rR (t + 1) dy1 M1 → sm_X L xs d 231 89 (sm_code 231 89) (lvL t) [] (wm (sh0 ++ dy1) M1) Q) : sm_X L xs d 231 7 (sm_code 231 7) (lvL t) [] (wm (sh0 ++ dy) M) Q := by
  refine x_opp rfl rfl ?_
  refine x_opp rfl rfl ?_
  refine x_opp rfl rfl ?_
  refine x_kcg rfl ?_
  refine x_opp rfl rfl ?_
  refine x_scr (nI_add (9 * t) 1) (by omega) ?_
  refine x_opp rfl rfl ?_
  refine x_opp rfl rfl ?_
  refine x_kcg rfl ?_
  refine x_opp rfl rfl ?_
  refine x_scr (nI_add (9 * t) 2) (by omega) ?_
  refine x_opp rfl rfl ?_
  refine x_opp rfl rfl ?_
  refine x_kcg rfl ?_
  refine x_opp rfl rfl ?_
  refine x_scr (nI_add (9 * t) 3) (by omega) ?_
  refine x_opp rfl rfl ?_
  refine x_opp rfl rfl ?_
  refine x_kcg rfl ?_
  refine x_opp rfl rfl ?_
  refine x_scr (nI_add (9 * t) 4) (by omega) ?_
  refine a_callV (s_0 dy) rfl rfl rfl rfl (e_mono (pr_I hd (by decide +kernel) (by decide) (p_letter h)) ?_)
  rintro _ _ ⟨x, dy1, M1, rfl, rfl, h2⟩
  refine x_opp rfl rfl ?_
  refine x_opp rfl rfl ?_
  refine x_opp rfl rfl ?_
  refine x_kcg rfl ?_
  refine x_opp rfl rfl ?_
  refine x_scr (nI_add (9 * t) 1) (by omega) ?_
  refine x_opp rfl rfl ?_
  refine x_opp rfl rfl ?_
  refine x_kcg rfl ?_
  refine x_opp rfl rfl ?_
  refine x_scr (nI_add (9 * t) 2) (by omega) ?_
  refine x_opp rfl rfl ?_
  refine x_opp rfl rfl ?_
  refine x_kcg rfl ?_
  refine x_opp rfl rfl ?_
  refine x_scr (nI_add (9 * t) 3) (by omega) ?_
  refine x_opp rfl rfl ?_
  refine x_opp rfl rfl ?_
  refine x_kcg rfl ?_
  refine x_opp rfl rfl ?_
  refine x_scr (nI_add (9 * t) 4) (by omega) ?_
  refine a_callV (s_65 dy1) rfl rfl rfl rfl (e_mono h2 ?_)
  rintro _ _ ⟨rfl, M2, rfl, hR2⟩
  refine a_icT rfl rfl br_eq rfl ?_
  exact next dy1 M2 hR2
set_option maxRecDepth 4000 in
theorem lw_black (hd : 100 ≤ d) (hi : 9 * t + 9 ≤ L ∧ L ≤ 4608) (h : rR t dy M) (next : ∀ dy1 M1, rR (t + 1) dy1 M1 → sm_X L xs d 231 89 (sm_code 231 89) (lvL t) [] (wm (sh0 ++ dy1) M1) Q) : sm_X L xs d 231 9 (sm_code 231 9) (lvL t) [] (wm (sh0 ++ dy) M) Q := by
  by_cases c4 : xs (9 * t + 4) = 0
  · skip
    refine x_opp rfl rfl ?_
    refine x_opp rfl rfl ?_
    refine x_opp rfl rfl ?_
    refine x_kcg rfl ?_
    refine x_opp rfl rfl ?_
    refine x_scr (nI_add (9 * t) 1) (by omega) ?_
    refine x_opp rfl rfl ?_
    refine x_opp rfl rfl ?_
    refine x_kcg rfl ?_
    refine x_opp rfl rfl ?_
    refine x_scr (nI_add (9 * t) 2) (by omega) ?_
    refine x_opp rfl rfl ?_
    refine x_opp rfl rfl ?_
    refine x_kcg rfl ?_
    refine x_opp rfl rfl ?_
    refine x_scr (nI_add (9 * t) 3) (by omega) ?_
    refine x_opp rfl rfl ?_
    refine x_opp rfl rfl ?_
    refine x_kcg rfl ?_
    refine x_opp rfl rfl ?_
    refine x_scr (nI_add (9 * t) 4) (by omega) ?_
    refine a_ifT rfl rfl br_eq c4 ?_
    refine x_kcg rfl ?_
    refine x_go rfl ?_
    refine a_callV (s_0 dy) rfl rfl rfl rfl (e_mono (pr_I hd (by decide +kernel) (by decide) (p_black (b := false) h)) ?_)
    rintro _ _ ⟨x, dy1, M1, rfl, rfl, h2⟩
    refine x_opp rfl rfl ?_
    refine x_opp rfl rfl ?_
    refine x_opp rfl rfl ?_
    refine x_kcg rfl ?_
    refine x_opp rfl rfl ?_
    refine x_scr (nI_add (9 * t) 1) (by omega) ?_
    refine x_opp rfl rfl ?_
    refine x_opp rfl rfl ?_
    refine x_kcg rfl ?_
    refine x_opp rfl rfl ?_
    refine x_scr (nI_add (9 * t) 2) (by omega) ?_
    refine x_opp rfl rfl ?_
    refine x_opp rfl rfl ?_
    refine x_kcg rfl ?_
    refine x_opp rfl rfl ?_
    refine x_scr (nI_add (9 * t) 3) (by omega) ?_
    refine x_opp rfl rfl ?_
    refine x_opp rfl rfl ?_
    refine x_kcg rfl ?_
    refine x_opp rfl rfl ?_
    refine x_scr (nI_add (9 * t) 4) (by omega) ?_
    refine a_ifT rfl rfl br_eq c4 ?_
    refine x_kcg rfl ?_
    refine x_go rfl ?_
    refine a_callV (s_65 dy1) rfl rfl rfl rfl (e_mono h2 ?_)
    rintro _ _ ⟨rfl, M2, rfl, hR2⟩
    refine a_icT rfl rfl br_eq rfl ?_
    exact next dy1 M2 hR2
  · skip
    refine x_opp rfl rfl ?_
    refine x_opp rfl rfl ?_
    refine x_opp rfl rfl ?_
    refine x_kcg rfl ?_
    refine x_opp rfl rfl ?_
    refine x_scr (nI_add (9 * t) 1) (by omega) ?_
    refine x_opp rfl rfl ?_
    refine x_opp rfl rfl ?_
    refine x_kcg rfl ?_
    refine x_opp rfl rfl ?_
    refine x_scr (nI_add (9 * t) 2) (by omega) ?_
    refine x_opp rfl rfl ?_
    refine x_opp rfl rfl ?_
    refine x_kcg rfl ?_
    refine x_opp rfl rfl ?_
    refine x_scr (nI_add (9 * t) 3) (by omega) ?_
    refine x_opp rfl rfl ?_
    refine x_opp rfl rfl ?_
    refine x_kcg rfl ?_
    refine x_opp rfl rfl ?_
    refine x_scr (nI_add (9 * t) 4) (by omega) ?_
    refine a_ifF rfl rfl br_eq c4 ?_
    refine x_kcg rfl ?_
    refine x_go rfl ?_
    refine a_callV (s_0 dy) rfl rfl rfl rfl (e_mono (pr_I hd (by decide +kernel) (by decide) (p_black (b := true) h)) ?_)
    rintro _ _ ⟨x, dy1, M1, rfl, rfl, h2⟩
    refine x_opp rfl rfl ?_
    refine x_opp rfl rfl ?_
    refine x_opp rfl rfl ?_
    refine x_kcg rfl ?_
    refine x_opp rfl rfl ?_
    refine x_scr (nI_add (9 * t) 1) (by omega) ?_
    refine x_opp rfl rfl ?_
    refine x_opp rfl rfl ?_
    refine x_kcg rfl ?_
    refine x_opp rfl rfl ?_
    refine x_scr (nI_add (9 * t) 2) (by omega) ?_
    refine x_opp rfl rfl ?_
    refine x_opp rfl rfl ?_
    refine x_kcg rfl ?_
    refine x_opp rfl rfl ?_
    refine x_scr (nI_add (9 * t) 3) (by omega) ?_
    refine x_opp rfl rfl ?_
    refine x_opp rfl rfl ?_
    refine x_kcg rfl ?_
    refine x_opp rfl rfl ?_
    refine x_scr (nI_add (9 * t) 4) (by omega) ?_
    refine a_ifF rfl rfl br_eq c4 ?_
    refine x_kcg rfl ?_
    refine x_go rfl ?_
    refine a_callV (s_65 dy1) rfl rfl rfl rfl (e_mono h2 ?_)
    rintro _ _ ⟨rfl, M2, rfl, hR2⟩
    refine a_icT rfl rfl br_eq rfl ?_
    exact next dy1 M2 hR2
set_option maxRecDepth 4000 in
theorem lw_bar (hd : 100 ≤ d) (hi : 9 * t + 9 ≤ L ∧ L ≤ 4608) (h : rR t dy M) (next : ∀ dy1 M1, rR (t + 1) dy1 M1 → sm_X L xs d 231 89 (sm_code 231 89) (lvL t) [] (wm (sh0 ++ dy1) M1) Q) : sm_X L xs d 231 17 (sm_code 231 17) (lvL t) [] (wm (sh0 ++ dy) M) Q := by
  by_cases c4 : xs (9 * t + 4) = 0
  · skip
    by_cases c5 : xs (9 * t + 5) = 0
    · skip
      refine x_opp rfl rfl ?_
      refine x_opp rfl rfl ?_
      refine x_opp rfl rfl ?_
      refine x_kcg rfl ?_
      refine x_opp rfl rfl ?_
      refine x_scr (nI_add (9 * t) 1) (by omega) ?_
      refine x_opp rfl rfl ?_
      refine x_opp rfl rfl ?_
      refine x_kcg rfl ?_
      refine x_opp rfl rfl ?_
      refine x_scr (nI_add (9 * t) 2) (by omega) ?_
      refine x_opp rfl rfl ?_
      refine x_opp rfl rfl ?_
      refine x_kcg rfl ?_
      refine x_opp rfl rfl ?_
      refine x_scr (nI_add (9 * t) 3) (by omega) ?_
      refine x_opp rfl rfl ?_
      refine x_opp rfl rfl ?_
      refine x_kcg rfl ?_
      refine x_opp rfl rfl ?_
      refine x_scr (nI_add (9 * t) 4) (by omega) ?_
      refine a_ifT rfl rfl br_eq c4 ?_
      refine x_kcg rfl ?_
      refine x_go rfl ?_
      refine x_opp rfl rfl ?_
      refine x_opp rfl rfl ?_
      refine x_kcg rfl ?_
      refine x_opp rfl rfl ?_
      refine x_scr (nI_add (9 * t) 5) (by omega) ?_
      refine a_ifT rfl rfl br_eq c5 ?_
      refine x_kcg rfl ?_
      refine x_go rfl ?_
      refine a_callV (s_0 dy) rfl rfl rfl rfl (e_mono (pr_I hd (by decide +kernel) (by decide) (p_bar (b := false) (o := false) h)) ?_)
      rintro _ _ ⟨x, dy1, M1, rfl, rfl, h2⟩
      refine x_opp rfl rfl ?_
      refine x_opp rfl rfl ?_
      refine x_opp rfl rfl ?_
      refine x_kcg rfl ?_
      refine x_opp rfl rfl ?_
      refine x_scr (nI_add (9 * t) 1) (by omega) ?_
      refine x_opp rfl rfl ?_
      refine x_opp rfl rfl ?_
      refine x_kcg rfl ?_
      refine x_opp rfl rfl ?_
      refine x_scr (nI_add (9 * t) 2) (by omega) ?_
      refine x_opp rfl rfl ?_
      refine x_opp rfl rfl ?_
      refine x_kcg rfl ?_
      refine x_opp rfl rfl ?_
      refine x_scr (nI_add (9 * t) 3) (by omega) ?_
      refine x_opp rfl rfl ?_
      refine x_opp rfl rfl ?_
      refine x_kcg rfl ?_
      refine x_opp rfl rfl ?_
      refine x_scr (nI_add (9 * t) 4) (by omega) ?_
      refine a_ifT rfl rfl br_eq c4 ?_
      refine x_kcg rfl ?_
      refine x_go rfl ?_
      refine x_opp rfl rfl ?_
      refine x_opp rfl rfl ?_
      refine x_kcg rfl ?_
      refine x_opp rfl rfl ?_
      refine x_scr (nI_add (9 * t) 5) (by omega) ?_
      refine a_ifT rfl rfl br_eq c5 ?_
      refine x_kcg rfl ?_
      refine x_go rfl ?_
      refine a_callV (s_65 dy1) rfl rfl rfl rfl (e_mono h2 ?_)
      rintro _ _ ⟨rfl, M2, rfl, hR2⟩
      refine a_icT rfl rfl br_eq rfl ?_
      exact next dy1 M2 hR2
    · skip
      refine x_opp rfl rfl ?_
      refine x_opp rfl rfl ?_
      refine x_opp rfl rfl ?_
      refine x_kcg rfl ?_
      refine x_opp rfl rfl ?_
      refine x_scr (nI_add (9 * t) 1) (by omega) ?_
      refine x_opp rfl rfl ?_
      refine x_opp rfl rfl ?_
      refine x_kcg rfl ?_
      refine x_opp rfl rfl ?_
      refine x_scr (nI_add (9 * t) 2) (by omega) ?_
      refine x_opp rfl rfl ?_
      refine x_opp rfl rfl ?_
      refine x_kcg rfl ?_
      refine x_opp rfl rfl ?_
      refine x_scr (nI_add (9 * t) 3) (by omega) ?_
      refine x_opp rfl rfl ?_
      refine x_opp rfl rfl ?_
      refine x_kcg rfl ?_
      refine x_opp rfl rfl ?_
      refine x_scr (nI_add (9 * t) 4) (by omega) ?_
      refine a_ifT rfl rfl br_eq c4 ?_
      refine x_kcg rfl ?_
      refine x_go rfl ?_
      refine x_opp rfl rfl ?_
      refine x_opp rfl rfl ?_
      refine x_kcg rfl ?_
      refine x_opp rfl rfl ?_
      refine x_scr (nI_add (9 * t) 5) (by omega) ?_
      refine a_ifF rfl rfl br_eq c5 ?_
      refine x_kcg rfl ?_
      refine x_go rfl ?_
      refine a_callV (s_0 dy) rfl rfl rfl rfl (e_mono (pr_I hd (by decide +kernel) (by decide) (p_bar (b := false) (o := true) h)) ?_)
      rintro _ _ ⟨x, dy1, M1, rfl, rfl, h2⟩
      refine x_opp rfl rfl ?_
      refine x_opp rfl rfl ?_
      refine x_opp rfl rfl ?_
      refine x_kcg rfl ?_
      refine x_opp rfl rfl ?_
      refine x_scr (nI_add (9 * t) 1) (by omega) ?_
      refine x_opp rfl rfl ?_
      refine x_opp rfl rfl ?_
      refine x_kcg rfl ?_
      refine x_opp rfl rfl ?_
      refine x_scr (nI_add (9 * t) 2) (by omega) ?_
      refine x_opp rfl rfl ?_
      refine x_opp rfl rfl ?_
      refine x_kcg rfl ?_
      refine x_opp rfl rfl ?_
      refine x_scr (nI_add (9 * t) 3) (by omega) ?_
      refine x_opp rfl rfl ?_
      refine x_opp rfl rfl ?_
      refine x_kcg rfl ?_
      refine x_opp rfl rfl ?_
      refine x_scr (nI_add (9 * t) 4) (by omega) ?_
      refine a_ifT rfl rfl br_eq c4 ?_
      refine x_kcg rfl ?_
      refine x_go rfl ?_
      refine x_opp rfl rfl ?_
      refine x_opp rfl rfl ?_
      refine x_kcg rfl ?_
      refine x_opp rfl rfl ?_
      refine x_scr (nI_add (9 * t) 5) (by omega) ?_
      refine a_ifF rfl rfl br_eq c5 ?_
      refine x_kcg rfl ?_
      refine x_go rfl ?_
      refine a_callV (s_65 dy1) rfl rfl rfl rfl (e_mono h2 ?_)
      rintro _ _ ⟨rfl, M2, rfl, hR2⟩
      refine a_icT rfl rfl br_eq rfl ?_
      exact next dy1 M2 hR2
  · skip
    by_cases c5 : xs (9 * t + 5) = 0
    · skip
      refine x_opp rfl rfl ?_
      refine x_opp rfl rfl ?_
      refine x_opp rfl rfl ?_
      refine x_kcg rfl ?_
      refine x_opp rfl rfl ?_
      refine x_scr (nI_add (9 * t) 1) (by omega) ?_
      refine x_opp rfl rfl ?_
      refine x_opp rfl rfl ?_
      refine x_kcg rfl ?_
      refine x_opp rfl rfl ?_
      refine x_scr (nI_add (9 * t) 2) (by omega) ?_
      refine x_opp rfl rfl ?_
      refine x_opp rfl rfl ?_
      refine x_kcg rfl ?_
      refine x_opp rfl rfl ?_
      refine x_scr (nI_add (9 * t) 3) (by omega) ?_
      refine x_opp rfl rfl ?_
      refine x_opp rfl rfl ?_
      refine x_kcg rfl ?_
      refine x_opp rfl rfl ?_
      refine x_scr (nI_add (9 * t) 4) (by omega) ?_
      refine a_ifF rfl rfl br_eq c4 ?_
      refine x_kcg rfl ?_
      refine x_go rfl ?_
      refine x_opp rfl rfl ?_
      refine x_opp rfl rfl ?_
      refine x_kcg rfl ?_
      refine x_opp rfl rfl ?_
      refine x_scr (nI_add (9 * t) 5) (by omega) ?_
      refine a_ifT rfl rfl br_eq c5 ?_
      refine x_kcg rfl ?_
      refine x_go rfl ?_
      refine a_callV (s_0 dy) rfl rfl rfl rfl (e_mono (pr_I hd (by decide +kernel) (by decide) (p_bar (b := true) (o := false) h)) ?_)
      rintro _ _ ⟨x, dy1, M1, rfl, rfl, h2⟩
      refine x_opp rfl rfl ?_
      refine x_opp rfl rfl ?_
      refine x_opp rfl rfl ?_
      refine x_kcg rfl ?_
      refine x_opp rfl rfl ?_
      refine x_scr (nI_add (9 * t) 1) (by omega) ?_
      refine x_opp rfl rfl ?_
      refine x_opp rfl rfl ?_
      refine x_kcg rfl ?_
      refine x_opp rfl rfl ?_
      refine x_scr (nI_add (9 * t) 2) (by omega) ?_
      refine x_opp rfl rfl ?_
      refine x_opp rfl rfl ?_
      refine x_kcg rfl ?_
      refine x_opp rfl rfl ?_
      refine x_scr (nI_add (9 * t) 3) (by omega) ?_
      refine x_opp rfl rfl ?_
      refine x_opp rfl rfl ?_
      refine x_kcg rfl ?_
      refine x_opp rfl rfl ?_
      refine x_scr (nI_add (9 * t) 4) (by omega) ?_
      refine a_ifF rfl rfl br_eq c4 ?_
      refine x_kcg rfl ?_
      refine x_go rfl ?_
      refine x_opp rfl rfl ?_
      refine x_opp rfl rfl ?_
      refine x_kcg rfl ?_
      refine x_opp rfl rfl ?_
      refine x_scr (nI_add (9 * t) 5) (by omega) ?_
      refine a_ifT rfl rfl br_eq c5 ?_
      refine x_kcg rfl ?_
      refine x_go rfl ?_
      refine a_callV (s_65 dy1) rfl rfl rfl rfl (e_mono h2 ?_)
      rintro _ _ ⟨rfl, M2, rfl, hR2⟩
      refine a_icT rfl rfl br_eq rfl ?_
      exact next dy1 M2 hR2
    · skip
      refine x_opp rfl rfl ?_
      refine x_opp rfl rfl ?_
      refine x_opp rfl rfl ?_
      refine x_kcg rfl ?_
      refine x_opp rfl rfl ?_
      refine x_scr (nI_add (9 * t) 1) (by omega) ?_
      refine x_opp rfl rfl ?_
      refine x_opp rfl rfl ?_
      refine x_kcg rfl ?_
      refine x_opp rfl rfl ?_
      refine x_scr (nI_add (9 * t) 2) (by omega) ?_
      refine x_opp rfl rfl ?_
      refine x_opp rfl rfl ?_
      refine x_kcg rfl ?_
      refine x_opp rfl rfl ?_
      refine x_scr (nI_add (9 * t) 3) (by omega) ?_
      refine x_opp rfl rfl ?_
      refine x_opp rfl rfl ?_
      refine x_kcg rfl ?_
      refine x_opp rfl rfl ?_
      refine x_scr (nI_add (9 * t) 4) (by omega) ?_
      refine a_ifF rfl rfl br_eq c4 ?_
      refine x_kcg rfl ?_
      refine x_go rfl ?_
      refine x_opp rfl rfl ?_
      refine x_opp rfl rfl ?_
      refine x_kcg rfl ?_
      refine x_opp rfl rfl ?_
      refine x_scr (nI_add (9 * t) 5) (by omega) ?_
      refine a_ifF rfl rfl br_eq c5 ?_
      refine x_kcg rfl ?_
      refine x_go rfl ?_
      refine a_callV (s_0 dy) rfl rfl rfl rfl (e_mono (pr_I hd (by decide +kernel) (by decide) (p_bar (b := true) (o := true) h)) ?_)
      rintro _ _ ⟨x, dy1, M1, rfl, rfl, h2⟩
      refine x_opp rfl rfl ?_
      refine x_opp rfl rfl ?_
      refine x_opp rfl rfl ?_
      refine x_kcg rfl ?_
      refine x_opp rfl rfl ?_
      refine x_scr (nI_add (9 * t) 1) (by omega) ?_
      refine x_opp rfl rfl ?_
      refine x_opp rfl rfl ?_
      refine x_kcg rfl ?_
      refine x_opp rfl rfl ?_
      refine x_scr (nI_add (9 * t) 2) (by omega) ?_
      refine x_opp rfl rfl ?_
      refine x_opp rfl rfl ?_
      refine x_kcg rfl ?_
      refine x_opp rfl rfl ?_
      refine x_scr (nI_add (9 * t) 3) (by omega) ?_
      refine x_opp rfl rfl ?_
      refine x_opp rfl rfl ?_
      refine x_kcg rfl ?_
      refine x_opp rfl rfl ?_
      refine x_scr (nI_add (9 * t) 4) (by omega) ?_
      refine a_ifF rfl rfl br_eq c4 ?_
      refine x_kcg rfl ?_
      refine x_go rfl ?_
      refine x_opp rfl rfl ?_
      refine x_opp rfl rfl ?_
      refine x_kcg rfl ?_
      refine x_opp rfl rfl ?_
      refine x_scr (nI_add (9 * t) 5) (by omega) ?_
      refine a_ifF rfl rfl br_eq c5 ?_
      refine x_kcg rfl ?_
      refine x_go rfl ?_
      refine a_callV (s_65 dy1) rfl rfl rfl rfl (e_mono h2 ?_)
      rintro _ _ ⟨rfl, M2, rfl, hR2⟩
      refine a_icT rfl rfl br_eq rfl ?_
      exact next dy1 M2 hR2
set_option maxRecDepth 4000 in
theorem lw_at (hd : 100 ≤ d) (hi : 9 * t + 9 ≤ L ∧ L ≤ 4608) (h : rR t dy M) (next : ∀ dy1 M1, rR (t + 1) dy1 M1 → sm_X L xs d 231 89 (sm_code 231 89) (lvL t) [] (wm (sh0 ++ dy1) M1) Q) : sm_X L xs d 231 31 (sm_code 231 31) (lvL t) [] (wm (sh0 ++ dy) M) Q := by
  refine x_opp rfl rfl ?_
  refine x_opp rfl rfl ?_
  refine x_opp rfl rfl ?_
  refine x_kcg rfl ?_
  refine x_opp rfl rfl ?_
  refine x_scr (nI_add (9 * t) 1) (by omega) ?_
  refine x_opp rfl rfl ?_
  refine x_opp rfl rfl ?_
  refine x_kcg rfl ?_
  refine x_opp rfl rfl ?_
  refine x_scr (nI_add (9 * t) 2) (by omega) ?_
  refine x_opp rfl rfl ?_
  refine x_opp rfl rfl ?_
  refine x_kcg rfl ?_
  refine x_opp rfl rfl ?_
  refine x_scr (nI_add (9 * t) 3) (by omega) ?_
  refine a_callV (s_0 dy) rfl rfl rfl rfl (e_mono (pr_I hd (by decide +kernel) (by decide) (p_at h)) ?_)
  rintro _ _ ⟨x, dy1, M1, rfl, rfl, h2⟩
  refine x_opp rfl rfl ?_
  refine x_opp rfl rfl ?_
  refine x_opp rfl rfl ?_
  refine x_kcg rfl ?_
  refine x_opp rfl rfl ?_
  refine x_scr (nI_add (9 * t) 1) (by omega) ?_
  refine x_opp rfl rfl ?_
  refine x_opp rfl rfl ?_
  refine x_kcg rfl ?_
  refine x_opp rfl rfl ?_
  refine x_scr (nI_add (9 * t) 2) (by omega) ?_
  refine x_opp rfl rfl ?_
  refine x_opp rfl rfl ?_
  refine x_kcg rfl ?_
  refine x_opp rfl rfl ?_
  refine x_scr (nI_add (9 * t) 3) (by omega) ?_
  refine a_callV (s_65 dy1) rfl rfl rfl rfl (e_mono h2 ?_)
  rintro _ _ ⟨rfl, M2, rfl, hR2⟩
  refine a_icT rfl rfl br_eq rfl ?_
  exact next dy1 M2 hR2
set_option maxRecDepth 4000 in
theorem lw_list (hd : 100 ≤ d) (hi : 9 * t + 9 ≤ L ∧ L ≤ 4608) (h : rR t dy M) (next : ∀ dy1 M1, rR (t + 1) dy1 M1 → sm_X L xs d 231 89 (sm_code 231 89) (lvL t) [] (wm (sh0 ++ dy1) M1) Q) : sm_X L xs d 231 33 (sm_code 231 33) (lvL t) [] (wm (sh0 ++ dy) M) Q := by
  refine x_opp rfl rfl ?_
  refine x_opp rfl rfl ?_
  refine x_opp rfl rfl ?_
  refine x_kcg rfl ?_
  refine x_opp rfl rfl ?_
  refine x_scr (nI_add (9 * t) 1) (by omega) ?_
  refine x_opp rfl rfl ?_
  refine x_opp rfl rfl ?_
  refine x_kcg rfl ?_
  refine x_opp rfl rfl ?_
  refine x_scr (nI_add (9 * t) 2) (by omega) ?_
  refine x_opp rfl rfl ?_
  refine x_opp rfl rfl ?_
  refine x_kcg rfl ?_
  refine x_opp rfl rfl ?_
  refine x_scr (nI_add (9 * t) 3) (by omega) ?_
  refine x_opp rfl rfl ?_
  refine x_opp rfl rfl ?_
  refine x_kcg rfl ?_
  refine x_opp rfl rfl ?_
  refine x_scr (nI_add (9 * t) 4) (by omega) ?_
  refine x_opp rfl rfl ?_
  refine x_kcg rfl ?_
  refine x_opp rfl rfl ?_
  refine x_opp rfl rfl ?_
  refine x_opp rfl rfl ?_
  refine x_kcg rfl ?_
  refine x_opp rfl rfl ?_
  refine x_scr (nI_add (9 * t) 5) (by omega) ?_
  refine x_opp rfl rfl ?_
  refine x_opp rfl rfl ?_
  refine x_opp rfl rfl ?_
  refine x_opp rfl rfl ?_
  refine a_callV (s_0 dy) rfl rfl rfl rfl (e_mono (pr_I hd (by decide +kernel) (by decide) (p_list h)) ?_)
  rintro _ _ ⟨x, dy1, M1, rfl, rfl, h2⟩
  refine x_opp rfl rfl ?_
  refine x_opp rfl rfl ?_
  refine x_opp rfl rfl ?_
  refine x_kcg rfl ?_
  refine x_opp rfl rfl ?_
  refine x_scr (nI_add (9 * t) 1) (by omega) ?_
  refine x_opp rfl rfl ?_
  refine x_opp rfl rfl ?_
  refine x_kcg rfl ?_
  refine x_opp rfl rfl ?_
  refine x_scr (nI_add (9 * t) 2) (by omega) ?_
  refine x_opp rfl rfl ?_
  refine x_opp rfl rfl ?_
  refine x_kcg rfl ?_
  refine x_opp rfl rfl ?_
  refine x_scr (nI_add (9 * t) 3) (by omega) ?_
  refine x_opp rfl rfl ?_
  refine x_opp rfl rfl ?_
  refine x_kcg rfl ?_
  refine x_opp rfl rfl ?_
  refine x_scr (nI_add (9 * t) 4) (by omega) ?_
  refine x_opp rfl rfl ?_
  refine x_kcg rfl ?_
  refine x_opp rfl rfl ?_
  refine x_opp rfl rfl ?_
  refine x_opp rfl rfl ?_
  refine x_kcg rfl ?_
  refine x_opp rfl rfl ?_
  refine x_scr (nI_add (9 * t) 5) (by omega) ?_
  refine x_opp rfl rfl ?_
  refine x_opp rfl rfl ?_
  refine x_opp rfl rfl ?_
  refine x_opp rfl rfl ?_
  refine a_callV (s_65 dy1) rfl rfl rfl rfl (e_mono h2 ?_)
  rintro _ _ ⟨rfl, M2, rfl, hR2⟩
  refine a_icT rfl rfl br_eq rfl ?_
  exact next dy1 M2 hR2
set_option maxRecDepth 4000 in
theorem lw_drop (hd : 100 ≤ d) (hi : 9 * t + 9 ≤ L ∧ L ≤ 4608) (h : rR t dy M) (next : ∀ dy1 M1, rR (t + 1) dy1 M1 → sm_X L xs d 231 89 (sm_code 231 89) (lvL t) [] (wm (sh0 ++ dy1) M1) Q) : sm_X L xs d 231 35 (sm_code 231 35) (lvL t) [] (wm (sh0 ++ dy) M) Q := by
  refine x_opp rfl rfl ?_
  refine x_opp rfl rfl ?_
  refine x_opp rfl rfl ?_
  refine x_kcg rfl ?_
  refine x_opp rfl rfl ?_
  refine x_scr (nI_add (9 * t) 1) (by omega) ?_
  refine a_callV (s_0 dy) rfl rfl rfl rfl (e_mono (pr_I hd (by decide +kernel) (by decide) (p_drop h)) ?_)
  rintro _ _ ⟨x, dy1, M1, rfl, rfl, h2⟩
  refine x_opp rfl rfl ?_
  refine x_opp rfl rfl ?_
  refine x_opp rfl rfl ?_
  refine x_kcg rfl ?_
  refine x_opp rfl rfl ?_
  refine x_scr (nI_add (9 * t) 1) (by omega) ?_
  refine a_callV (s_65 dy1) rfl rfl rfl rfl (e_mono h2 ?_)
  rintro _ _ ⟨rfl, M2, rfl, hR2⟩
  refine a_icT rfl rfl br_eq rfl ?_
  exact next dy1 M2 hR2
set_option maxRecDepth 4000 in
theorem lw_word (hd : 100 ≤ d) (hi : 9 * t + 9 ≤ L ∧ L ≤ 4608) (h : rR t dy M) (next : ∀ dy1 M1, rR (t + 1) dy1 M1 → sm_X L xs d 231 89 (sm_code 231 89) (lvL t) [] (wm (sh0 ++ dy1) M1) Q) : sm_X L xs d 231 37 (sm_code 231 37) (lvL t) [] (wm (sh0 ++ dy) M) Q := by
  refine x_opp rfl rfl ?_
  refine x_opp rfl rfl ?_
  refine x_opp rfl rfl ?_
  refine x_kcg rfl ?_
  refine x_opp rfl rfl ?_
  refine x_scr (nI_add (9 * t) 1) (by omega) ?_
  refine x_opp rfl rfl ?_
  refine x_opp rfl rfl ?_
  refine x_kcg rfl ?_
  refine x_opp rfl rfl ?_
  refine x_scr (nI_add (9 * t) 2) (by omega) ?_
  refine x_opp rfl rfl ?_
  refine x_kcg rfl ?_
  refine x_opp rfl rfl ?_
  refine x_opp rfl rfl ?_
  refine x_opp rfl rfl ?_
  refine x_kcg rfl ?_
  refine x_opp rfl rfl ?_
  refine x_scr (nI_add (9 * t) 3) (by omega) ?_
  refine x_opp rfl rfl ?_
  refine x_opp rfl rfl ?_
  refine x_opp rfl rfl ?_
  refine x_opp rfl rfl ?_
  refine x_opp rfl rfl ?_
  refine x_opp rfl rfl ?_
  refine x_kcg rfl ?_
  refine x_opp rfl rfl ?_
  refine x_scr (nI_add (9 * t) 4) (by omega) ?_
  refine a_callV (s_0 dy) rfl rfl rfl rfl (e_mono (pr_I hd (by decide +kernel) (by decide) (p_word h)) ?_)
  rintro _ _ ⟨x, dy1, M1, rfl, rfl, h2⟩
  refine x_opp rfl rfl ?_
  refine x_opp rfl rfl ?_
  refine x_opp rfl rfl ?_
  refine x_kcg rfl ?_
  refine x_opp rfl rfl ?_
  refine x_scr (nI_add (9 * t) 1) (by omega) ?_
  refine x_opp rfl rfl ?_
  refine x_opp rfl rfl ?_
  refine x_kcg rfl ?_
  refine x_opp rfl rfl ?_
  refine x_scr (nI_add (9 * t) 2) (by omega) ?_
  refine x_opp rfl rfl ?_
  refine x_kcg rfl ?_
  refine x_opp rfl rfl ?_
  refine x_opp rfl rfl ?_
  refine x_opp rfl rfl ?_
  refine x_kcg rfl ?_
  refine x_opp rfl rfl ?_
  refine x_scr (nI_add (9 * t) 3) (by omega) ?_
  refine x_opp rfl rfl ?_
  refine x_opp rfl rfl ?_
  refine x_opp rfl rfl ?_
  refine x_opp rfl rfl ?_
  refine x_opp rfl rfl ?_
  refine x_opp rfl rfl ?_
  refine x_kcg rfl ?_
  refine x_opp rfl rfl ?_
  refine x_scr (nI_add (9 * t) 4) (by omega) ?_
  refine a_callV (s_65 dy1) rfl rfl rfl rfl (e_mono h2 ?_)
  rintro _ _ ⟨rfl, M2, rfl, hR2⟩
  refine a_icT rfl rfl br_eq rfl ?_
  exact next dy1 M2 hR2
set_option maxRecDepth 4000 in
theorem lw_ask (hd : 100 ≤ d) (hi : 9 * t + 9 ≤ L ∧ L ≤ 4608) (h : rR t dy M) (next : ∀ dy1 M1, rR (t + 1) dy1 M1 → sm_X L xs d 231 89 (sm_code 231 89) (lvL t) [] (wm (sh0 ++ dy1) M1) Q) : sm_X L xs d 231 39 (sm_code 231 39) (lvL t) [] (wm (sh0 ++ dy) M) Q := by
  refine x_opp rfl rfl ?_
  refine x_opp rfl rfl ?_
  refine x_opp rfl rfl ?_
  refine x_kcg rfl ?_
  refine x_opp rfl rfl ?_
  refine x_scr (nI_add (9 * t) 1) (by omega) ?_
  refine x_opp rfl rfl ?_
  refine x_opp rfl rfl ?_
  refine x_kcg rfl ?_
  refine x_opp rfl rfl ?_
  refine x_scr (nI_add (9 * t) 2) (by omega) ?_
  refine x_opp rfl rfl ?_
  refine x_opp rfl rfl ?_
  refine x_kcg rfl ?_
  refine x_opp rfl rfl ?_
  refine x_scr (nI_add (9 * t) 3) (by omega) ?_
  refine x_opp rfl rfl ?_
  refine x_kcg rfl ?_
  refine x_opp rfl rfl ?_
  refine x_opp rfl rfl ?_
  refine x_opp rfl rfl ?_
  refine x_kcg rfl ?_
  refine x_opp rfl rfl ?_
  refine x_scr (nI_add (9 * t) 4) (by omega) ?_
  refine x_opp rfl rfl ?_
  refine x_opp rfl rfl ?_
  refine x_opp rfl rfl ?_
  refine x_opp rfl rfl ?_
  refine a_callV (s_0 dy) rfl rfl rfl rfl (e_mono (pr_I hd (by decide +kernel) (by decide) (p_ask (by omega) h)) ?_)
  rintro _ _ ⟨x, dy1, M1, rfl, rfl, h2⟩
  refine x_opp rfl rfl ?_
  refine x_opp rfl rfl ?_
  refine x_opp rfl rfl ?_
  refine x_kcg rfl ?_
  refine x_opp rfl rfl ?_
  refine x_scr (nI_add (9 * t) 1) (by omega) ?_
  refine x_opp rfl rfl ?_
  refine x_opp rfl rfl ?_
  refine x_kcg rfl ?_
  refine x_opp rfl rfl ?_
  refine x_scr (nI_add (9 * t) 2) (by omega) ?_
  refine x_opp rfl rfl ?_
  refine x_opp rfl rfl ?_
  refine x_kcg rfl ?_
  refine x_opp rfl rfl ?_
  refine x_scr (nI_add (9 * t) 3) (by omega) ?_
  refine x_opp rfl rfl ?_
  refine x_kcg rfl ?_
  refine x_opp rfl rfl ?_
  refine x_opp rfl rfl ?_
  refine x_opp rfl rfl ?_
  refine x_kcg rfl ?_
  refine x_opp rfl rfl ?_
  refine x_scr (nI_add (9 * t) 4) (by omega) ?_
  refine x_opp rfl rfl ?_
  refine x_opp rfl rfl ?_
  refine x_opp rfl rfl ?_
  refine x_opp rfl rfl ?_
  refine a_callV (s_65 dy1) rfl rfl rfl rfl (e_mono h2 ?_)
  rintro _ _ ⟨rfl, M2, rfl, hR2⟩
  refine a_icT rfl rfl br_eq rfl ?_
  exact next dy1 M2 hR2
set_option maxRecDepth 4000 in
theorem lw_wordOf (hd : 100 ≤ d) (hi : 9 * t + 9 ≤ L ∧ L ≤ 4608) (h : rR t dy M) (next : ∀ dy1 M1, rR (t + 1) dy1 M1 → sm_X L xs d 231 89 (sm_code 231 89) (lvL t) [] (wm (sh0 ++ dy1) M1) Q) : sm_X L xs d 231 41 (sm_code 231 41) (lvL t) [] (wm (sh0 ++ dy) M) Q := by
  refine x_opp rfl rfl ?_
  refine x_opp rfl rfl ?_
  refine x_opp rfl rfl ?_
  refine x_kcg rfl ?_
  refine x_opp rfl rfl ?_
  refine x_scr (nI_add (9 * t) 1) (by omega) ?_
  refine x_opp rfl rfl ?_
  refine x_opp rfl rfl ?_
  refine x_kcg rfl ?_
  refine x_opp rfl rfl ?_
  refine x_scr (nI_add (9 * t) 2) (by omega) ?_
  refine a_callV (s_0 dy) rfl rfl rfl rfl (e_mono (pr_L hd (by decide +kernel) (by decide) (p_wordOf (by omega) h)) ?_)
  rintro _ _ ⟨x, dy1, M1, rfl, rfl, h2⟩
  refine x_opp rfl rfl ?_
  refine x_opp rfl rfl ?_
  refine x_opp rfl rfl ?_
  refine x_kcg rfl ?_
  refine x_opp rfl rfl ?_
  refine x_scr (nI_add (9 * t) 1) (by omega) ?_
  refine x_opp rfl rfl ?_
  refine x_opp rfl rfl ?_
  refine x_kcg rfl ?_
  refine x_opp rfl rfl ?_
  refine x_scr (nI_add (9 * t) 2) (by omega) ?_
  refine a_callV (s_65 dy1) rfl rfl rfl rfl (e_mono h2 ?_)
  rintro _ _ ⟨rfl, M2, rfl, hR2⟩
  refine x_opp rfl rfl ?_
  refine a_ifT rfl rfl br_leq rfl ?_
  exact next dy1 M2 hR2
set_option maxRecDepth 4000 in
theorem lw_uses (hd : 100 ≤ d) (hi : 9 * t + 9 ≤ L ∧ L ≤ 4608) (h : rR t dy M) (next : ∀ dy1 M1, rR (t + 1) dy1 M1 → sm_X L xs d 231 89 (sm_code 231 89) (lvL t) [] (wm (sh0 ++ dy1) M1) Q) : sm_X L xs d 231 43 (sm_code 231 43) (lvL t) [] (wm (sh0 ++ dy) M) Q := by
  by_cases c2 : xs (9 * t + 2) = 0
  · skip
    refine x_opp rfl rfl ?_
    refine x_opp rfl rfl ?_
    refine x_opp rfl rfl ?_
    refine x_kcg rfl ?_
    refine x_opp rfl rfl ?_
    refine x_scr (nI_add (9 * t) 1) (by omega) ?_
    refine x_opp rfl rfl ?_
    refine x_opp rfl rfl ?_
    refine x_kcg rfl ?_
    refine x_opp rfl rfl ?_
    refine x_scr (nI_add (9 * t) 2) (by omega) ?_
    refine a_ifT rfl rfl br_eq c2 ?_
    refine x_kcg rfl ?_
    refine x_go rfl ?_
    refine x_opp rfl rfl ?_
    refine x_opp rfl rfl ?_
    refine x_kcg rfl ?_
    refine x_opp rfl rfl ?_
    refine x_scr (nI_add (9 * t) 3) (by omega) ?_
    refine a_callV (s_0 dy) rfl rfl rfl rfl (e_mono (pr_I hd (by decide +kernel) (by decide) (p_uses (b := false) h)) ?_)
    rintro _ _ ⟨x, dy1, M1, rfl, rfl, h2⟩
    refine x_opp rfl rfl ?_
    refine x_opp rfl rfl ?_
    refine x_opp rfl rfl ?_
    refine x_kcg rfl ?_
    refine x_opp rfl rfl ?_
    refine x_scr (nI_add (9 * t) 1) (by omega) ?_
    refine x_opp rfl rfl ?_
    refine x_opp rfl rfl ?_
    refine x_kcg rfl ?_
    refine x_opp rfl rfl ?_
    refine x_scr (nI_add (9 * t) 2) (by omega) ?_
    refine a_ifT rfl rfl br_eq c2 ?_
    refine x_kcg rfl ?_
    refine x_go rfl ?_
    refine x_opp rfl rfl ?_
    refine x_opp rfl rfl ?_
    refine x_kcg rfl ?_
    refine x_opp rfl rfl ?_
    refine x_scr (nI_add (9 * t) 3) (by omega) ?_
    refine a_callV (s_65 dy1) rfl rfl rfl rfl (e_mono h2 ?_)
    rintro _ _ ⟨rfl, M2, rfl, hR2⟩
    refine a_icT rfl rfl br_eq rfl ?_
    exact next dy1 M2 hR2
  · skip
    refine x_opp rfl rfl ?_
    refine x_opp rfl rfl ?_
    refine x_opp rfl rfl ?_
    refine x_kcg rfl ?_
    refine x_opp rfl rfl ?_
    refine x_scr (nI_add (9 * t) 1) (by omega) ?_
    refine x_opp rfl rfl ?_
    refine x_opp rfl rfl ?_
    refine x_kcg rfl ?_
    refine x_opp rfl rfl ?_
    refine x_scr (nI_add (9 * t) 2) (by omega) ?_
    refine a_ifF rfl rfl br_eq c2 ?_
    refine x_kcg rfl ?_
    refine x_go rfl ?_
    refine x_opp rfl rfl ?_
    refine x_opp rfl rfl ?_
    refine x_kcg rfl ?_
    refine x_opp rfl rfl ?_
    refine x_scr (nI_add (9 * t) 3) (by omega) ?_
    refine a_callV (s_0 dy) rfl rfl rfl rfl (e_mono (pr_I hd (by decide +kernel) (by decide) (p_uses (b := true) h)) ?_)
    rintro _ _ ⟨x, dy1, M1, rfl, rfl, h2⟩
    refine x_opp rfl rfl ?_
    refine x_opp rfl rfl ?_
    refine x_opp rfl rfl ?_
    refine x_kcg rfl ?_
    refine x_opp rfl rfl ?_
    refine x_scr (nI_add (9 * t) 1) (by omega) ?_
    refine x_opp rfl rfl ?_
    refine x_opp rfl rfl ?_
    refine x_kcg rfl ?_
    refine x_opp rfl rfl ?_
    refine x_scr (nI_add (9 * t) 2) (by omega) ?_
    refine a_ifF rfl rfl br_eq c2 ?_
    refine x_kcg rfl ?_
    refine x_go rfl ?_
    refine x_opp rfl rfl ?_
    refine x_opp rfl rfl ?_
    refine x_kcg rfl ?_
    refine x_opp rfl rfl ?_
    refine x_scr (nI_add (9 * t) 3) (by omega) ?_
    refine a_callV (s_65 dy1) rfl rfl rfl rfl (e_mono h2 ?_)
    rintro _ _ ⟨rfl, M2, rfl, hR2⟩
    refine a_icT rfl rfl br_eq rfl ?_
    exact next dy1 M2 hR2
set_option maxRecDepth 4000 in
theorem lw_entries (hd : 100 ≤ d) (hi : 9 * t + 9 ≤ L ∧ L ≤ 4608) (h : rR t dy M) (next : ∀ dy1 M1, rR (t + 1) dy1 M1 → sm_X L xs d 231 89 (sm_code 231 89) (lvL t) [] (wm (sh0 ++ dy1) M1) Q) : sm_X L xs d 231 51 (sm_code 231 51) (lvL t) [] (wm (sh0 ++ dy) M) Q := by
  refine x_opp rfl rfl ?_
  refine x_opp rfl rfl ?_
  refine x_opp rfl rfl ?_
  refine x_kcg rfl ?_
  refine x_opp rfl rfl ?_
  refine x_scr (nI_add (9 * t) 1) (by omega) ?_
  refine a_callV (s_0 dy) rfl rfl rfl rfl (e_mono (pr_I hd (by decide +kernel) (by decide) (p_entries h)) ?_)
  rintro _ _ ⟨x, dy1, M1, rfl, rfl, h2⟩
  refine x_opp rfl rfl ?_
  refine x_opp rfl rfl ?_
  refine x_opp rfl rfl ?_
  refine x_kcg rfl ?_
  refine x_opp rfl rfl ?_
  refine x_scr (nI_add (9 * t) 1) (by omega) ?_
  refine a_callV (s_65 dy1) rfl rfl rfl rfl (e_mono h2 ?_)
  rintro _ _ ⟨rfl, M2, rfl, hR2⟩
  refine a_icT rfl rfl br_eq rfl ?_
  exact next dy1 M2 hR2
set_option maxRecDepth 4000 in
theorem lw_entry (hd : 100 ≤ d) (hi : 9 * t + 9 ≤ L ∧ L ≤ 4608) (h : rR t dy M) (next : ∀ dy1 M1, rR (t + 1) dy1 M1 → sm_X L xs d 231 89 (sm_code 231 89) (lvL t) [] (wm (sh0 ++ dy1) M1) Q) : sm_X L xs d 231 53 (sm_code 231 53) (lvL t) [] (wm (sh0 ++ dy) M) Q := by
  refine x_opp rfl rfl ?_
  refine x_opp rfl rfl ?_
  refine x_opp rfl rfl ?_
  refine x_kcg rfl ?_
  refine x_opp rfl rfl ?_
  refine x_scr (nI_add (9 * t) 1) (by omega) ?_
  refine x_opp rfl rfl ?_
  refine x_opp rfl rfl ?_
  refine x_kcg rfl ?_
  refine x_opp rfl rfl ?_
  refine x_scr (nI_add (9 * t) 2) (by omega) ?_
  refine x_opp rfl rfl ?_
  refine x_opp rfl rfl ?_
  refine x_kcg rfl ?_
  refine x_opp rfl rfl ?_
  refine x_scr (nI_add (9 * t) 3) (by omega) ?_
  refine a_callV (s_0 dy) rfl rfl rfl rfl (e_mono (pr_I hd (by decide +kernel) (by decide) (p_entry h)) ?_)
  rintro _ _ ⟨x, dy1, M1, rfl, rfl, h2⟩
  refine x_opp rfl rfl ?_
  refine x_opp rfl rfl ?_
  refine x_opp rfl rfl ?_
  refine x_kcg rfl ?_
  refine x_opp rfl rfl ?_
  refine x_scr (nI_add (9 * t) 1) (by omega) ?_
  refine x_opp rfl rfl ?_
  refine x_opp rfl rfl ?_
  refine x_kcg rfl ?_
  refine x_opp rfl rfl ?_
  refine x_scr (nI_add (9 * t) 2) (by omega) ?_
  refine x_opp rfl rfl ?_
  refine x_opp rfl rfl ?_
  refine x_kcg rfl ?_
  refine x_opp rfl rfl ?_
  refine x_scr (nI_add (9 * t) 3) (by omega) ?_
  refine a_callV (s_65 dy1) rfl rfl rfl rfl (e_mono h2 ?_)
  rintro _ _ ⟨rfl, M2, rfl, hR2⟩
  refine a_icT rfl rfl br_eq rfl ?_
  exact next dy1 M2 hR2
set_option maxRecDepth 4000 in
theorem lw_stands (hd : 100 ≤ d) (hi : 9 * t + 9 ≤ L ∧ L ≤ 4608) (h : rR t dy M) (next : ∀ dy1 M1, rR (t + 1) dy1 M1 → sm_X L xs d 231 89 (sm_code 231 89) (lvL t) [] (wm (sh0 ++ dy1) M1) Q) : sm_X L xs d 231 55 (sm_code 231 55) (lvL t) [] (wm (sh0 ++ dy) M) Q := by
  refine x_opp rfl rfl ?_
  refine x_opp rfl rfl ?_
  refine x_opp rfl rfl ?_
  refine x_kcg rfl ?_
  refine x_opp rfl rfl ?_
  refine x_scr (nI_add (9 * t) 1) (by omega) ?_
  refine x_opp rfl rfl ?_
  refine x_opp rfl rfl ?_
  refine x_kcg rfl ?_
  refine x_opp rfl rfl ?_
  refine x_scr (nI_add (9 * t) 2) (by omega) ?_
  refine a_callV (s_0 dy) rfl rfl rfl rfl (e_mono (pr_L hd (by decide +kernel) (by decide) (p_stands h)) ?_)
  rintro _ _ ⟨x, dy1, M1, rfl, rfl, h2⟩
  refine x_opp rfl rfl ?_
  refine x_opp rfl rfl ?_
  refine x_opp rfl rfl ?_
  refine x_kcg rfl ?_
  refine x_opp rfl rfl ?_
  refine x_scr (nI_add (9 * t) 1) (by omega) ?_
  refine x_opp rfl rfl ?_
  refine x_opp rfl rfl ?_
  refine x_kcg rfl ?_
  refine x_opp rfl rfl ?_
  refine x_scr (nI_add (9 * t) 2) (by omega) ?_
  refine a_callV (s_65 dy1) rfl rfl rfl rfl (e_mono h2 ?_)
  rintro _ _ ⟨rfl, M2, rfl, hR2⟩
  refine x_opp rfl rfl ?_
  refine a_ifT rfl rfl br_leq rfl ?_
  exact next dy1 M2 hR2
set_option maxRecDepth 4000 in
theorem lw_crossing (hd : 100 ≤ d) (hi : 9 * t + 9 ≤ L ∧ L ≤ 4608) (h : rR t dy M) (next : ∀ dy1 M1, rR (t + 1) dy1 M1 → sm_X L xs d 231 89 (sm_code 231 89) (lvL t) [] (wm (sh0 ++ dy1) M1) Q) : sm_X L xs d 231 57 (sm_code 231 57) (lvL t) [] (wm (sh0 ++ dy) M) Q := by
  refine x_opp rfl rfl ?_
  refine x_opp rfl rfl ?_
  refine x_opp rfl rfl ?_
  refine x_kcg rfl ?_
  refine x_opp rfl rfl ?_
  refine x_scr (nI_add (9 * t) 1) (by omega) ?_
  refine x_opp rfl rfl ?_
  refine x_opp rfl rfl ?_
  refine x_kcg rfl ?_
  refine x_opp rfl rfl ?_
  refine x_scr (nI_add (9 * t) 2) (by omega) ?_
  refine x_opp rfl rfl ?_
  refine x_opp rfl rfl ?_
  refine x_kcg rfl ?_
  refine x_opp rfl rfl ?_
  refine x_scr (nI_add (9 * t) 3) (by omega) ?_
  refine a_callV (s_0 dy) rfl rfl rfl rfl (e_mono (pr_I hd (by decide +kernel) (by decide) (p_crossing h)) ?_)
  rintro _ _ ⟨x, dy1, M1, rfl, rfl, h2⟩
  refine x_opp rfl rfl ?_
  refine x_opp rfl rfl ?_
  refine x_opp rfl rfl ?_
  refine x_kcg rfl ?_
  refine x_opp rfl rfl ?_
  refine x_scr (nI_add (9 * t) 1) (by omega) ?_
  refine x_opp rfl rfl ?_
  refine x_opp rfl rfl ?_
  refine x_kcg rfl ?_
  refine x_opp rfl rfl ?_
  refine x_scr (nI_add (9 * t) 2) (by omega) ?_
  refine x_opp rfl rfl ?_
  refine x_opp rfl rfl ?_
  refine x_kcg rfl ?_
  refine x_opp rfl rfl ?_
  refine x_scr (nI_add (9 * t) 3) (by omega) ?_
  refine a_callV (s_65 dy1) rfl rfl rfl rfl (e_mono h2 ?_)
  rintro _ _ ⟨rfl, M2, rfl, hR2⟩
  refine a_icT rfl rfl br_eq rfl ?_
  exact next dy1 M2 hR2
set_option maxRecDepth 4000 in
theorem lw_fill (hd : 100 ≤ d) (hi : 9 * t + 9 ≤ L ∧ L ≤ 4608) (h : rR t dy M) (next : ∀ dy1 M1, rR (t + 1) dy1 M1 → sm_X L xs d 231 89 (sm_code 231 89) (lvL t) [] (wm (sh0 ++ dy1) M1) Q) : sm_X L xs d 231 59 (sm_code 231 59) (lvL t) [] (wm (sh0 ++ dy) M) Q := by
  refine x_opp rfl rfl ?_
  refine x_opp rfl rfl ?_
  refine x_opp rfl rfl ?_
  refine x_kcg rfl ?_
  refine x_opp rfl rfl ?_
  refine x_scr (nI_add (9 * t) 1) (by omega) ?_
  refine x_opp rfl rfl ?_
  refine x_opp rfl rfl ?_
  refine x_kcg rfl ?_
  refine x_opp rfl rfl ?_
  refine x_scr (nI_add (9 * t) 2) (by omega) ?_
  refine a_callV (s_0 dy) rfl rfl rfl rfl (e_mono (pr_I hd (by decide +kernel) (by decide) (p_fill (by omega) h)) ?_)
  rintro _ _ ⟨x, dy1, M1, rfl, rfl, h2⟩
  refine x_opp rfl rfl ?_
  refine x_opp rfl rfl ?_
  refine x_opp rfl rfl ?_
  refine x_kcg rfl ?_
  refine x_opp rfl rfl ?_
  refine x_scr (nI_add (9 * t) 1) (by omega) ?_
  refine x_opp rfl rfl ?_
  refine x_opp rfl rfl ?_
  refine x_kcg rfl ?_
  refine x_opp rfl rfl ?_
  refine x_scr (nI_add (9 * t) 2) (by omega) ?_
  refine a_callV (s_65 dy1) rfl rfl rfl rfl (e_mono h2 ?_)
  rintro _ _ ⟨rfl, M2, rfl, hR2⟩
  refine a_icT rfl rfl br_eq rfl ?_
  exact next dy1 M2 hR2
set_option maxRecDepth 4000 in
theorem lw_goOn (hd : 100 ≤ d) (hi : 9 * t + 9 ≤ L ∧ L ≤ 4608) (h : rR t dy M) (next : ∀ dy1 M1, rR (t + 1) dy1 M1 → sm_X L xs d 231 89 (sm_code 231 89) (lvL t) [] (wm (sh0 ++ dy1) M1) Q) : sm_X L xs d 231 61 (sm_code 231 61) (lvL t) [] (wm (sh0 ++ dy) M) Q := by
  refine x_opp rfl rfl ?_
  refine x_opp rfl rfl ?_
  refine x_opp rfl rfl ?_
  refine x_kcg rfl ?_
  refine x_opp rfl rfl ?_
  refine x_scr (nI_add (9 * t) 1) (by omega) ?_
  refine a_callV (s_0 dy) rfl rfl rfl rfl (e_mono (pr_I hd (by decide +kernel) (by decide) (p_goOn h)) ?_)
  rintro _ _ ⟨x, dy1, M1, rfl, rfl, h2⟩
  refine x_opp rfl rfl ?_
  refine x_opp rfl rfl ?_
  refine x_opp rfl rfl ?_
  refine x_kcg rfl ?_
  refine x_opp rfl rfl ?_
  refine x_scr (nI_add (9 * t) 1) (by omega) ?_
  refine a_callV (s_65 dy1) rfl rfl rfl rfl (e_mono h2 ?_)
  rintro _ _ ⟨rfl, M2, rfl, hR2⟩
  refine a_icT rfl rfl br_eq rfl ?_
  exact next dy1 M2 hR2
set_option maxRecDepth 4000 in
theorem lw_solve (hd : 100 ≤ d) (hi : 9 * t + 9 ≤ L ∧ L ≤ 4608) (h : rR t dy M) (next : ∀ dy1 M1, rR (t + 1) dy1 M1 → sm_X L xs d 231 89 (sm_code 231 89) (lvL t) [] (wm (sh0 ++ dy1) M1) Q) : sm_X L xs d 231 63 (sm_code 231 63) (lvL t) [] (wm (sh0 ++ dy) M) Q := by
  refine x_opp rfl rfl ?_
  refine x_opp rfl rfl ?_
  refine x_opp rfl rfl ?_
  refine x_kcg rfl ?_
  refine x_opp rfl rfl ?_
  refine x_scr (nI_add (9 * t) 1) (by omega) ?_
  refine x_opp rfl rfl ?_
  refine x_opp rfl rfl ?_
  refine x_kcg rfl ?_
  refine x_opp rfl rfl ?_
  refine x_scr (nI_add (9 * t) 2) (by omega) ?_
  refine x_opp rfl rfl ?_
  refine x_opp rfl rfl ?_
  refine x_kcg rfl ?_
  refine x_opp rfl rfl ?_
  refine x_scr (nI_add (9 * t) 3) (by omega) ?_
  refine a_callV (s_0 dy) rfl rfl rfl rfl (e_mono (pr_I hd (by decide +kernel) (by decide) (p_solve (by omega) h)) ?_)
  rintro _ _ ⟨x, dy1, M1, rfl, rfl, h2⟩
  refine x_opp rfl rfl ?_
  refine x_opp rfl rfl ?_
  refine x_opp rfl rfl ?_
  refine x_kcg rfl ?_
  refine x_opp rfl rfl ?_
  refine x_scr (nI_add (9 * t) 1) (by omega) ?_
  refine x_opp rfl rfl ?_
  refine x_opp rfl rfl ?_
  refine x_kcg rfl ?_
  refine x_opp rfl rfl ?_
  refine x_scr (nI_add (9 * t) 2) (by omega) ?_
  refine x_opp rfl rfl ?_
  refine x_opp rfl rfl ?_
  refine x_kcg rfl ?_
  refine x_opp rfl rfl ?_
  refine x_scr (nI_add (9 * t) 3) (by omega) ?_
  refine a_callV (s_65 dy1) rfl rfl rfl rfl (e_mono h2 ?_)
  rintro _ _ ⟨rfl, M2, rfl, hR2⟩
  refine a_icT rfl rfl br_eq rfl ?_
  exact next dy1 M2 hR2
set_option maxRecDepth 4000 in
theorem lw_first (hd : 100 ≤ d) (hi : 9 * t + 9 ≤ L ∧ L ≤ 4608) (h : rR t dy M) (next : ∀ dy1 M1, rR (t + 1) dy1 M1 → sm_X L xs d 231 89 (sm_code 231 89) (lvL t) [] (wm (sh0 ++ dy1) M1) Q) : sm_X L xs d 231 65 (sm_code 231 65) (lvL t) [] (wm (sh0 ++ dy) M) Q := by
  refine x_opp rfl rfl ?_
  refine x_opp rfl rfl ?_
  refine x_opp rfl rfl ?_
  refine x_kcg rfl ?_
  refine x_opp rfl rfl ?_
  refine x_scr (nI_add (9 * t) 1) (by omega) ?_
  refine x_opp rfl rfl ?_
  refine x_opp rfl rfl ?_
  refine x_kcg rfl ?_
  refine x_opp rfl rfl ?_
  refine x_scr (nI_add (9 * t) 2) (by omega) ?_
  refine a_callV (s_0 dy) rfl rfl rfl rfl (e_mono (pr_L hd (by decide +kernel) (by decide) (p_first h)) ?_)
  rintro _ _ ⟨x, dy1, M1, rfl, rfl, h2⟩
  refine x_opp rfl rfl ?_
  refine x_opp rfl rfl ?_
  refine x_opp rfl rfl ?_
  refine x_kcg rfl ?_
  refine x_opp rfl rfl ?_
  refine x_scr (nI_add (9 * t) 1) (by omega) ?_
  refine x_opp rfl rfl ?_
  refine x_opp rfl rfl ?_
  refine x_kcg rfl ?_
  refine x_opp rfl rfl ?_
  refine x_scr (nI_add (9 * t) 2) (by omega) ?_
  refine a_callV (s_65 dy1) rfl rfl rfl rfl (e_mono h2 ?_)
  rintro _ _ ⟨rfl, M2, rfl, hR2⟩
  refine x_opp rfl rfl ?_
  refine a_ifT rfl rfl br_leq rfl ?_
  exact next dy1 M2 hR2
set_option maxRecDepth 4000 in
theorem lw_searched (hd : 100 ≤ d) (hi : 9 * t + 9 ≤ L ∧ L ≤ 4608) (h : rR t dy M) (next : ∀ dy1 M1, rR (t + 1) dy1 M1 → sm_X L xs d 231 89 (sm_code 231 89) (lvL t) [] (wm (sh0 ++ dy1) M1) Q) : sm_X L xs d 231 67 (sm_code 231 67) (lvL t) [] (wm (sh0 ++ dy) M) Q := by
  refine x_opp rfl rfl ?_
  refine x_opp rfl rfl ?_
  refine x_opp rfl rfl ?_
  refine x_kcg rfl ?_
  refine x_opp rfl rfl ?_
  refine x_scr (nI_add (9 * t) 1) (by omega) ?_
  refine a_callV (s_0 dy) rfl rfl rfl rfl (e_mono (pr_I hd (by decide +kernel) (by decide) (p_searched h)) ?_)
  rintro _ _ ⟨x, dy1, M1, rfl, rfl, h2⟩
  refine x_opp rfl rfl ?_
  refine x_opp rfl rfl ?_
  refine x_opp rfl rfl ?_
  refine x_kcg rfl ?_
  refine x_opp rfl rfl ?_
  refine x_scr (nI_add (9 * t) 1) (by omega) ?_
  refine a_callV (s_65 dy1) rfl rfl rfl rfl (e_mono h2 ?_)
  rintro _ _ ⟨rfl, M2, rfl, hR2⟩
  refine a_icT rfl rfl br_eq rfl ?_
  exact next dy1 M2 hR2
set_option maxRecDepth 4000 in
theorem lw_judge (hd : 100 ≤ d) (hi : 9 * t + 9 ≤ L ∧ L ≤ 4608) (h : rR t dy M) (next : ∀ dy1 M1, rR (t + 1) dy1 M1 → sm_X L xs d 231 89 (sm_code 231 89) (lvL t) [] (wm (sh0 ++ dy1) M1) Q) : sm_X L xs d 231 69 (sm_code 231 69) (lvL t) [] (wm (sh0 ++ dy) M) Q := by
  refine x_opp rfl rfl ?_
  refine x_opp rfl rfl ?_
  refine x_opp rfl rfl ?_
  refine x_kcg rfl ?_
  refine x_opp rfl rfl ?_
  refine x_scr (nI_add (9 * t) 1) (by omega) ?_
  refine x_opp rfl rfl ?_
  refine x_opp rfl rfl ?_
  refine x_kcg rfl ?_
  refine x_opp rfl rfl ?_
  refine x_scr (nI_add (9 * t) 2) (by omega) ?_
  refine a_callV (s_0 dy) rfl rfl rfl rfl (e_mono (pr_I hd (by decide +kernel) (by decide) (p_judge h)) ?_)
  rintro _ _ ⟨x, dy1, M1, rfl, rfl, h2⟩
  refine x_opp rfl rfl ?_
  refine x_opp rfl rfl ?_
  refine x_opp rfl rfl ?_
  refine x_kcg rfl ?_
  refine x_opp rfl rfl ?_
  refine x_scr (nI_add (9 * t) 1) (by omega) ?_
  refine x_opp rfl rfl ?_
  refine x_opp rfl rfl ?_
  refine x_kcg rfl ?_
  refine x_opp rfl rfl ?_
  refine x_scr (nI_add (9 * t) 2) (by omega) ?_
  refine a_callV (s_65 dy1) rfl rfl rfl rfl (e_mono h2 ?_)
  rintro _ _ ⟨rfl, M2, rfl, hR2⟩
  refine a_icT rfl rfl br_eq rfl ?_
  exact next dy1 M2 hR2
set_option maxRecDepth 4000 in
theorem lw_move (hd : 100 ≤ d) (hi : 9 * t + 9 ≤ L ∧ L ≤ 4608) (h : rR t dy M) (next : ∀ dy1 M1, rR (t + 1) dy1 M1 → sm_X L xs d 231 89 (sm_code 231 89) (lvL t) [] (wm (sh0 ++ dy1) M1) Q) : sm_X L xs d 231 71 (sm_code 231 71) (lvL t) [] (wm (sh0 ++ dy) M) Q := by
  refine x_opp rfl rfl ?_
  refine x_opp rfl rfl ?_
  refine x_opp rfl rfl ?_
  refine x_kcg rfl ?_
  refine x_opp rfl rfl ?_
  refine x_scr (nI_add (9 * t) 1) (by omega) ?_
  refine x_opp rfl rfl ?_
  refine x_opp rfl rfl ?_
  refine x_kcg rfl ?_
  refine x_opp rfl rfl ?_
  refine x_scr (nI_add (9 * t) 2) (by omega) ?_
  refine x_opp rfl rfl ?_
  refine x_opp rfl rfl ?_
  refine x_kcg rfl ?_
  refine x_opp rfl rfl ?_
  refine x_scr (nI_add (9 * t) 3) (by omega) ?_
  refine x_opp rfl rfl ?_
  refine x_opp rfl rfl ?_
  refine x_kcg rfl ?_
  refine x_opp rfl rfl ?_
  refine x_scr (nI_add (9 * t) 4) (by omega) ?_
  refine x_opp rfl rfl ?_
  refine x_opp rfl rfl ?_
  refine x_kcg rfl ?_
  refine x_opp rfl rfl ?_
  refine x_scr (nI_add (9 * t) 5) (by omega) ?_
  refine x_opp rfl rfl ?_
  refine x_opp rfl rfl ?_
  refine x_kcg rfl ?_
  refine x_opp rfl rfl ?_
  refine x_scr (nI_add (9 * t) 6) (by omega) ?_
  refine x_opp rfl rfl ?_
  refine x_opp rfl rfl ?_
  refine x_kcg rfl ?_
  refine x_opp rfl rfl ?_
  refine x_scr (nI_add (9 * t) 7) (by omega) ?_
  refine x_opp rfl rfl ?_
  refine x_opp rfl rfl ?_
  refine x_kcg rfl ?_
  refine x_opp rfl rfl ?_
  refine x_scr (nI_add (9 * t) 8) (by omega) ?_
  refine a_callV (s_0 dy) rfl rfl rfl rfl (e_mono (pr_I hd (by decide +kernel) (by decide) (p_move h)) ?_)
  rintro _ _ ⟨x, dy1, M1, rfl, rfl, h2⟩
  refine x_opp rfl rfl ?_
  refine x_opp rfl rfl ?_
  refine x_opp rfl rfl ?_
  refine x_kcg rfl ?_
  refine x_opp rfl rfl ?_
  refine x_scr (nI_add (9 * t) 1) (by omega) ?_
  refine x_opp rfl rfl ?_
  refine x_opp rfl rfl ?_
  refine x_kcg rfl ?_
  refine x_opp rfl rfl ?_
  refine x_scr (nI_add (9 * t) 2) (by omega) ?_
  refine x_opp rfl rfl ?_
  refine x_opp rfl rfl ?_
  refine x_kcg rfl ?_
  refine x_opp rfl rfl ?_
  refine x_scr (nI_add (9 * t) 3) (by omega) ?_
  refine x_opp rfl rfl ?_
  refine x_opp rfl rfl ?_
  refine x_kcg rfl ?_
  refine x_opp rfl rfl ?_
  refine x_scr (nI_add (9 * t) 4) (by omega) ?_
  refine x_opp rfl rfl ?_
  refine x_opp rfl rfl ?_
  refine x_kcg rfl ?_
  refine x_opp rfl rfl ?_
  refine x_scr (nI_add (9 * t) 5) (by omega) ?_
  refine x_opp rfl rfl ?_
  refine x_opp rfl rfl ?_
  refine x_kcg rfl ?_
  refine x_opp rfl rfl ?_
  refine x_scr (nI_add (9 * t) 6) (by omega) ?_
  refine x_opp rfl rfl ?_
  refine x_opp rfl rfl ?_
  refine x_kcg rfl ?_
  refine x_opp rfl rfl ?_
  refine x_scr (nI_add (9 * t) 7) (by omega) ?_
  refine x_opp rfl rfl ?_
  refine x_opp rfl rfl ?_
  refine x_kcg rfl ?_
  refine x_opp rfl rfl ?_
  refine x_scr (nI_add (9 * t) 8) (by omega) ?_
  refine a_callV (s_65 dy1) rfl rfl rfl rfl (e_mono h2 ?_)
  rintro _ _ ⟨rfl, M2, rfl, hR2⟩
  refine a_icT rfl rfl br_eq rfl ?_
  exact next dy1 M2 hR2
set_option maxRecDepth 4000 in
theorem lw_moved (hd : 100 ≤ d) (hi : 9 * t + 9 ≤ L ∧ L ≤ 4608) (h : rR t dy M) (next : ∀ dy1 M1, rR (t + 1) dy1 M1 → sm_X L xs d 231 89 (sm_code 231 89) (lvL t) [] (wm (sh0 ++ dy1) M1) Q) : sm_X L xs d 231 73 (sm_code 231 73) (lvL t) [] (wm (sh0 ++ dy) M) Q := by
  refine x_opp rfl rfl ?_
  refine a_callV (s_0 dy) rfl rfl rfl rfl (e_mono (pr_I hd (by decide +kernel) (by decide) (p_moved h)) ?_)
  rintro _ _ ⟨x, dy1, M1, rfl, rfl, h2⟩
  refine x_opp rfl rfl ?_
  refine a_callV (s_65 dy1) rfl rfl rfl rfl (e_mono h2 ?_)
  rintro _ _ ⟨rfl, M2, rfl, hR2⟩
  refine a_icT rfl rfl br_eq rfl ?_
  exact next dy1 M2 hR2
set_option maxRecDepth 4000 in
theorem lw_turn (hd : 100 ≤ d) (hi : 9 * t + 9 ≤ L ∧ L ≤ 4608) (h : rR t dy M) (next : ∀ dy1 M1, rR (t + 1) dy1 M1 → sm_X L xs d 231 89 (sm_code 231 89) (lvL t) [] (wm (sh0 ++ dy1) M1) Q) : sm_X L xs d 231 75 (sm_code 231 75) (lvL t) [] (wm (sh0 ++ dy) M) Q := by
  refine x_opp rfl rfl ?_
  refine x_opp rfl rfl ?_
  refine x_opp rfl rfl ?_
  refine x_kcg rfl ?_
  refine x_opp rfl rfl ?_
  refine x_scr (nI_add (9 * t) 1) (by omega) ?_
  refine a_callV (s_0 dy) rfl rfl rfl rfl (e_mono (pr_I hd (by decide +kernel) (by decide) (p_turn h)) ?_)
  rintro _ _ ⟨x, dy1, M1, rfl, rfl, h2⟩
  refine x_opp rfl rfl ?_
  refine x_opp rfl rfl ?_
  refine x_opp rfl rfl ?_
  refine x_kcg rfl ?_
  refine x_opp rfl rfl ?_
  refine x_scr (nI_add (9 * t) 1) (by omega) ?_
  refine a_callV (s_65 dy1) rfl rfl rfl rfl (e_mono h2 ?_)
  rintro _ _ ⟨rfl, M2, rfl, hR2⟩
  refine a_icT rfl rfl br_eq rfl ?_
  exact next dy1 M2 hR2
set_option maxRecDepth 4000 in
theorem lw_mirror (hd : 100 ≤ d) (hi : 9 * t + 9 ≤ L ∧ L ≤ 4608) (h : rR t dy M) (next : ∀ dy1 M1, rR (t + 1) dy1 M1 → sm_X L xs d 231 89 (sm_code 231 89) (lvL t) [] (wm (sh0 ++ dy1) M1) Q) : sm_X L xs d 231 77 (sm_code 231 77) (lvL t) [] (wm (sh0 ++ dy) M) Q := by
  refine x_opp rfl rfl ?_
  refine x_opp rfl rfl ?_
  refine x_opp rfl rfl ?_
  refine x_kcg rfl ?_
  refine x_opp rfl rfl ?_
  refine x_scr (nI_add (9 * t) 1) (by omega) ?_
  refine a_callV (s_0 dy) rfl rfl rfl rfl (e_mono (pr_I hd (by decide +kernel) (by decide) (p_mirror h)) ?_)
  rintro _ _ ⟨x, dy1, M1, rfl, rfl, h2⟩
  refine x_opp rfl rfl ?_
  refine x_opp rfl rfl ?_
  refine x_opp rfl rfl ?_
  refine x_kcg rfl ?_
  refine x_opp rfl rfl ?_
  refine x_scr (nI_add (9 * t) 1) (by omega) ?_
  refine a_callV (s_65 dy1) rfl rfl rfl rfl (e_mono h2 ?_)
  rintro _ _ ⟨rfl, M2, rfl, hR2⟩
  refine a_icT rfl rfl br_eq rfl ?_
  exact next dy1 M2 hR2
set_option maxRecDepth 4000 in
theorem lw_trace (hd : 100 ≤ d) (hi : 9 * t + 9 ≤ L ∧ L ≤ 4608) (h : rR t dy M) (next : ∀ dy1 M1, rR (t + 1) dy1 M1 → sm_X L xs d 231 89 (sm_code 231 89) (lvL t) [] (wm (sh0 ++ dy1) M1) Q) : sm_X L xs d 231 79 (sm_code 231 79) (lvL t) [] (wm (sh0 ++ dy) M) Q := by
  refine x_opp rfl rfl ?_
  refine x_opp rfl rfl ?_
  refine x_opp rfl rfl ?_
  refine x_kcg rfl ?_
  refine x_opp rfl rfl ?_
  refine x_scr (nI_add (9 * t) 1) (by omega) ?_
  refine a_callV (s_0 dy) rfl rfl rfl rfl (e_mono (pr_I hd (by decide +kernel) (by decide) (p_trace (by omega) h)) ?_)
  rintro _ _ ⟨x, dy1, M1, rfl, rfl, h2⟩
  refine x_opp rfl rfl ?_
  refine x_opp rfl rfl ?_
  refine x_opp rfl rfl ?_
  refine x_kcg rfl ?_
  refine x_opp rfl rfl ?_
  refine x_scr (nI_add (9 * t) 1) (by omega) ?_
  refine a_callV (s_65 dy1) rfl rfl rfl rfl (e_mono h2 ?_)
  rintro _ _ ⟨rfl, M2, rfl, hR2⟩
  refine a_icT rfl rfl br_eq rfl ?_
  exact next dy1 M2 hR2
set_option maxRecDepth 4000 in
theorem lw_finding (hd : 100 ≤ d) (hi : 9 * t + 9 ≤ L ∧ L ≤ 4608) (h : rR t dy M) (next : ∀ dy1 M1, rR (t + 1) dy1 M1 → sm_X L xs d 231 89 (sm_code 231 89) (lvL t) [] (wm (sh0 ++ dy1) M1) Q) : sm_X L xs d 231 81 (sm_code 231 81) (lvL t) [] (wm (sh0 ++ dy) M) Q := by
  refine x_opp rfl rfl ?_
  refine a_callV (s_0 dy) rfl rfl rfl rfl (e_mono (pr_I hd (by decide +kernel) (by decide) (p_finding h)) ?_)
  rintro _ _ ⟨x, dy1, M1, rfl, rfl, h2⟩
  refine x_opp rfl rfl ?_
  refine a_callV (s_65 dy1) rfl rfl rfl rfl (e_mono h2 ?_)
  rintro _ _ ⟨rfl, M2, rfl, hR2⟩
  refine a_icT rfl rfl br_eq rfl ?_
  exact next dy1 M2 hR2
set_option maxRecDepth 4000 in
theorem lw_found (hd : 100 ≤ d) (hi : 9 * t + 9 ≤ L ∧ L ≤ 4608) (h : rR t dy M) (next : ∀ dy1 M1, rR (t + 1) dy1 M1 → sm_X L xs d 231 89 (sm_code 231 89) (lvL t) [] (wm (sh0 ++ dy1) M1) Q) : sm_X L xs d 231 83 (sm_code 231 83) (lvL t) [] (wm (sh0 ++ dy) M) Q := by
  refine x_opp rfl rfl ?_
  refine x_opp rfl rfl ?_
  refine x_opp rfl rfl ?_
  refine x_kcg rfl ?_
  refine x_opp rfl rfl ?_
  refine x_scr (nI_add (9 * t) 1) (by omega) ?_
  refine a_callV (s_0 dy) rfl rfl rfl rfl (e_mono (pr_I hd (by decide +kernel) (by decide) (p_found h)) ?_)
  rintro _ _ ⟨x, dy1, M1, rfl, rfl, h2⟩
  refine x_opp rfl rfl ?_
  refine x_opp rfl rfl ?_
  refine x_opp rfl rfl ?_
  refine x_kcg rfl ?_
  refine x_opp rfl rfl ?_
  refine x_scr (nI_add (9 * t) 1) (by omega) ?_
  refine a_callV (s_65 dy1) rfl rfl rfl rfl (e_mono h2 ?_)
  rintro _ _ ⟨rfl, M2, rfl, hR2⟩
  refine a_icT rfl rfl br_eq rfl ?_
  exact next dy1 M2 hR2
set_option maxRecDepth 4000 in
theorem lw_digest (hd : 100 ≤ d) (hi : 9 * t + 9 ≤ L ∧ L ≤ 4608) (h : rR t dy M) (next : ∀ dy1 M1, rR (t + 1) dy1 M1 → sm_X L xs d 231 89 (sm_code 231 89) (lvL t) [] (wm (sh0 ++ dy1) M1) Q) : sm_X L xs d 231 85 (sm_code 231 85) (lvL t) [] (wm (sh0 ++ dy) M) Q := by
  refine x_opp rfl rfl ?_
  refine x_opp rfl rfl ?_
  refine x_opp rfl rfl ?_
  refine x_kcg rfl ?_
  refine x_opp rfl rfl ?_
  refine x_scr (nI_add (9 * t) 1) (by omega) ?_
  refine a_callV (s_0 dy) rfl rfl rfl rfl (e_mono (pr_L hd (by decide +kernel) (by decide) (p_digest h)) ?_)
  rintro _ _ ⟨x, dy1, M1, rfl, rfl, h2⟩
  refine x_opp rfl rfl ?_
  refine x_opp rfl rfl ?_
  refine x_opp rfl rfl ?_
  refine x_kcg rfl ?_
  refine x_opp rfl rfl ?_
  refine x_scr (nI_add (9 * t) 1) (by omega) ?_
  refine a_callV (s_65 dy1) rfl rfl rfl rfl (e_mono h2 ?_)
  rintro _ _ ⟨rfl, M2, rfl, hR2⟩
  refine x_opp rfl rfl ?_
  refine a_ifT rfl rfl br_leq rfl ?_
  exact next dy1 M2 hR2
set_option maxRecDepth 4000 in
theorem lw_count (hd : 100 ≤ d) (hi : 9 * t + 9 ≤ L ∧ L ≤ 4608) (h : rR t dy M) (next : ∀ dy1 M1, rR (t + 1) dy1 M1 → sm_X L xs d 231 89 (sm_code 231 89) (lvL t) [] (wm (sh0 ++ dy1) M1) Q) : sm_X L xs d 231 87 (sm_code 231 87) (lvL t) [] (wm (sh0 ++ dy) M) Q := by
  refine x_opp rfl rfl ?_
  refine x_opp rfl rfl ?_
  refine x_opp rfl rfl ?_
  refine x_kcg rfl ?_
  refine x_opp rfl rfl ?_
  refine x_scr (nI_add (9 * t) 1) (by omega) ?_
  refine a_callV (s_0 dy) rfl rfl rfl rfl (e_mono (pr_I hd (by decide +kernel) (by decide) (p_count h)) ?_)
  rintro _ _ ⟨x, dy1, M1, rfl, rfl, h2⟩
  refine x_opp rfl rfl ?_
  refine x_opp rfl rfl ?_
  refine x_opp rfl rfl ?_
  refine x_kcg rfl ?_
  refine x_opp rfl rfl ?_
  refine x_scr (nI_add (9 * t) 1) (by omega) ?_
  refine a_callV (s_65 dy1) rfl rfl rfl rfl (e_mono h2 ?_)
  rintro _ _ ⟨rfl, M2, rfl, hR2⟩
  refine a_icT rfl rfl br_eq rfl ?_
  exact next dy1 M2 hR2
end LC
