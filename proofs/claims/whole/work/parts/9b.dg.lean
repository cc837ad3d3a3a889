/-! pairs: the digest, counts -/
section DG
variable {L : Nat} {xs : Nat → Int32} {t d : Nat} {dy : List sh_T} {M : mm_T} {Q : Option Value → sm_W → Prop} {n G : Nat}
set_option maxRecDepth 4000 in
theorem l_dig {H : Nat} (hG : G < 4) (hk : mgOK M G) (hH : M.1 67 G = nI H) (hH7 : H ≤ 7) (hq : Q (some (.long (dAll (mL M G) (mC M G) H))) (wm (sh0 ++ dy) M)) : sm_X L xs (d + 1) 229 4 (sm_code 229 4) [(0, .ref 65), (1, .int (nI G)), (2, .long 7), (4, .int (nI 0))] [] (wm (sh0 ++ dy) M) Q := by
  have hl := mgOK_7 hk
  refine loop_dn (P := fun i => sm_X L xs (d + 1) 229 4 (sm_code 229 4) [(0, .ref 65), (1, .int (nI G)), (2, .long (dAll (mL M G) (mC M G) i)), (4, .int (nI i))] [] (wm (sh0 ++ dy) M) Q) H ?_ ?_
  · have g : nI H ≤ nI H := Int32.le_refl _
    refine x_opp rfl rfl ?_
    refine x_opp rfl rfl ?_
    refine m_getg (s_65 dy) rfl rfl rfl ?_
    refine x_opp rfl rfl ?_
    refine a_ialdN (s_67 dy) (k := G) rfl rfl rfl (by omega) (by decide) ?_
    rw [hH]
    refine a_icT rfl rfl br_ge (by first | exact g | exact nt_f g | exact tnf g | exact fnt g | exact Int32.not_lt.mp g | exact Int32.not_le.mp g | exact Int32.not_lt.mpr g | exact Int32.not_le.mpr g) ?_
    refine x_opp rfl rfl ?_
    refine a_lret rfl rfl ?_
    exact hq
  · intro i hi hP
    have hi7 : i < 7 := by omega
    have g : ¬ nI H ≤ nI i := nI_ge hi (by omega)
    have hc7 := ln_cl (hl i hi7).1 (hl i hi7).2
    have lp : sm_X L xs (d + 1) 229 6 (sm_code 229 6) [(0, .ref 65), (1, .int (nI G)), (2, .long (dRow (mC M G) i (31 * dAll (mL M G) (mC M G) i + (mL M G i).toInt64) 0)), (4, .int (nI i)), (5, .int (nI 0))] [] (wm (sh0 ++ dy) M) Q := by
      refine loop_dn (P := fun j => sm_X L xs (d + 1) 229 6 (sm_code 229 6) [(0, .ref 65), (1, .int (nI G)), (2, .long (dRow (mC M G) i (31 * dAll (mL M G) (mC M G) i + (mL M G i).toInt64) j)), (4, .int (nI i)), (5, .int (nI j))] [] (wm (sh0 ++ dy) M) Q) (mL M G i).toNatClampNeg ?_ ?_
      · have g2 := ln_ge (hl i hi7).1 (hl i hi7).2 (Nat.le_refl _) hc7
        iterate 4 (refine x_opp rfl rfl ?_)
        refine a_callV (s_65 dy) rfl rfl rfl rfl (k_rowOf hG hi7 ?_)
        refine a_icT rfl rfl br_ge (by first | exact g2 | exact nt_f g2 | exact tnf g2 | exact fnt g2 | exact Int32.not_lt.mp g2 | exact Int32.not_le.mp g2 | exact Int32.not_lt.mpr g2 | exact Int32.not_le.mpr g2) ?_
        first | refine x_incg rfl rfl ?_ | refine x_opp rfl rfl ?_
        refine x_go rfl ?_
        refine x_lvs [(0, .ref 65), (1, .int (nI G)), (2, .long (dAll (mL M G) (mC M G) (i + 1))), (4, .int (nI (i + 1)))] rfl rfl rfl ⟨rfl, rfl, rfl, rfl, trivial⟩ ?_
        exact hP
      · intro j hj hP2
        have g2 := ln_lt (hl i hi7).1 (hl i hi7).2 hj
        iterate 4 (refine x_opp rfl rfl ?_)
        refine a_callV (s_65 dy) rfl rfl rfl rfl (k_rowOf hG hi7 ?_)
        refine a_icF rfl rfl br_ge (by first | exact g2 | exact nt_f g2 | exact tnf g2 | exact fnt g2 | exact Int32.not_lt.mp g2 | exact Int32.not_le.mp g2 | exact Int32.not_lt.mpr g2 | exact Int32.not_le.mpr g2) ?_
        iterate 7 (refine x_opp rfl rfl ?_)
        refine a_callS rfl rfl rfl rfl (k_sq ?_)
        refine a_callV (s_65 dy) rfl rfl rfl rfl (k_told (show 49 * G + (i * 7 + j) < 196 by omega) ?_)
        iterate 3 (refine x_opp rfl rfl ?_)
        first | refine x_incg rfl rfl ?_ | refine x_opp rfl rfl ?_
        refine x_go rfl ?_
        refine x_lvs [(0, .ref 65), (1, .int (nI G)), (2, .long (dRow (mC M G) i (31 * dAll (mL M G) (mC M G) i + (mL M G i).toInt64) (j + 1))), (4, .int (nI i)), (5, .int (nI (j + 1)))] rfl rfl rfl ⟨rfl, rfl, rfl, rfl, rfl, trivial⟩ ?_
        exact hP2
    refine x_opp rfl rfl ?_
    refine x_opp rfl rfl ?_
    refine m_getg (s_65 dy) rfl rfl rfl ?_
    refine x_opp rfl rfl ?_
    refine a_ialdN (s_67 dy) (k := G) rfl rfl rfl (by omega) (by decide) ?_
    rw [hH]
    refine a_icF rfl rfl br_ge (by first | exact g | exact nt_f g | exact tnf g | exact fnt g | exact Int32.not_lt.mp g | exact Int32.not_le.mp g | exact Int32.not_lt.mpr g | exact Int32.not_le.mpr g) ?_
    iterate 6 (refine x_opp rfl rfl ?_)
    refine a_callV (s_65 dy) rfl rfl rfl rfl (k_rowOf hG hi7 ?_)
    iterate 3 (refine x_opp rfl rfl ?_)
    refine x_kcg rfl ?_
    refine x_opp rfl rfl ?_
    refine x_go rfl ?_
    refine x_lvs [(0, .ref 65), (1, .int (nI G)), (2, .long (dRow (mC M G) i (31 * dAll (mL M G) (mC M G) i + (mL M G i).toInt64) 0)), (4, .int (nI i)), (5, .int (nI 0))] rfl rfl rfl ⟨rfl, rfl, rfl, rfl, rfl, trivial⟩ ?_
    exact lp
theorem c_dg (h : rG M n) (hG : G < 4) (hq : Q (some (.long (dAll (mL M G) (mC M G) (M.1 67 G).toNatClampNeg))) (wm (sh0 ++ dy) M)) : sm_E L xs (d + 1) 143 [.ref (45 + 5 * G)] (wm (sh0 ++ dy) M) Q := by
  obtain ⟨H, W, b1, b2, b3, b4, b5, b6, gk, mk, v1, v2, a1, a2⟩ := rG_v h hG
  refine c_sum (gsh_at dy G hG) gk b3 b1 ?_
  rw [vEq_d b1 v2 H (Nat.le_refl H)]
  rw [b4, nI_clamp (by omega)] at hq
  exact hq
set_option maxRecDepth 4000 in
theorem p_digest {g : Int32} (h : rR t dy M) : pr L xs t dy M 142 229 [.int g] := by
  have hR := h
  obtain ⟨s, E, P, w, n, hG, hN, hL, hS, hQ⟩ := h
  unfold pr; refine e_intro rfl rfl ?_
  by_cases hg : gRow 4 g = true
  · obtain ⟨G, hG4, rfl⟩ := gRow4 hg
    have hgr := hG.2.1 G hG4
    obtain ⟨sg, -⟩ := gsh_at dy G hG4
    obtain ⟨H, W, b1, b2, b3, b4, b5, b6, gk, mk, v1, v2, a1, a2⟩ := rG_v hG hG4
    by_cases th : M.1 66 G = 0
    · have th1 : M.1 (45 + 5 * G) 4 = 0 := by rw [a1]; exact th
      refine x_opp rfl rfl ?_
      refine a_callS rfl rfl rfl rfl (c_isGridNumber ?_)
      refine a_ifF rfl rfl br_eqz (by first | exact hg | exact nt_f hg | exact tnf hg | exact fnt hg | exact Int32.not_lt.mp hg | exact Int32.not_le.mp hg | exact Int32.not_lt.mpr hg | exact Int32.not_le.mpr hg) ?_
      refine x_opp rfl rfl ?_
      refine m_getg (s_0 dy) rfl rfl rfl ?_
      refine x_opp rfl rfl ?_
      refine a_gr hG4 rfl rfl hgr ?_
      refine m_getg sg rfl rfl rfl ?_
      rw [th1]
      refine a_ifF rfl rfl br_ne (fun h => h rfl) ?_
      refine x_opp rfl rfl ?_
      refine a_lret rfl rfl ?_
      refine ⟨_, dy, _, rfl, rfl, ?_⟩; refine e_intro rfl rfl ?_
      refine x_opp rfl rfl ?_
      refine a_callS rfl rfl rfl rfl (k_isGrid ?_)
      refine a_ifF rfl rfl br_eqz (by first | exact hg | exact nt_f hg | exact tnf hg | exact fnt hg | exact Int32.not_lt.mp hg | exact Int32.not_le.mp hg | exact Int32.not_lt.mpr hg | exact Int32.not_le.mpr hg) ?_
      refine x_opp rfl rfl ?_
      refine m_getg (s_65 dy) rfl rfl rfl ?_
      refine x_opp rfl rfl ?_
      refine a_baldN (s_66 dy) (k := G) rfl rfl rfl (by omega) (by decide) ?_
      refine a_ifF rfl rfl br_ne (fun h => h th) ?_
      refine x_opp rfl rfl ?_
      refine a_lret rfl rfl ?_
      exact ⟨rfl, _, rfl, R_up hR⟩
    · have th1 : ¬ M.1 (45 + 5 * G) 4 = 0 := by rw [a1]; exact th
      refine x_opp rfl rfl ?_
      refine a_callS rfl rfl rfl rfl (c_isGridNumber ?_)
      refine a_ifF rfl rfl br_eqz (by first | exact hg | exact nt_f hg | exact tnf hg | exact fnt hg | exact Int32.not_lt.mp hg | exact Int32.not_le.mp hg | exact Int32.not_lt.mpr hg | exact Int32.not_le.mpr hg) ?_
      refine x_opp rfl rfl ?_
      refine m_getg (s_0 dy) rfl rfl rfl ?_
      refine x_opp rfl rfl ?_
      refine a_gr hG4 rfl rfl hgr ?_
      refine m_getg sg rfl rfl rfl ?_
      refine a_ifT rfl rfl br_ne (by first | exact th1 | exact nt_f th1 | exact tnf th1 | exact fnt th1 | exact Int32.not_lt.mp th1 | exact Int32.not_le.mp th1 | exact Int32.not_lt.mpr th1 | exact Int32.not_le.mpr th1) ?_
      refine x_opp rfl rfl ?_
      refine m_getg (s_0 dy) rfl rfl rfl ?_
      refine x_opp rfl rfl ?_
      refine a_gr hG4 rfl rfl hgr ?_
      refine a_callV sg rfl rfl rfl rfl (c_dg hG hG4 ?_)
      refine a_lret rfl rfl ?_
      refine ⟨_, dy, _, rfl, rfl, ?_⟩; refine e_intro rfl rfl ?_
      refine x_opp rfl rfl ?_
      refine a_callS rfl rfl rfl rfl (k_isGrid ?_)
      refine a_ifF rfl rfl br_eqz (by first | exact hg | exact nt_f hg | exact tnf hg | exact fnt hg | exact Int32.not_lt.mp hg | exact Int32.not_le.mp hg | exact Int32.not_lt.mpr hg | exact Int32.not_le.mpr hg) ?_
      refine x_opp rfl rfl ?_
      refine m_getg (s_65 dy) rfl rfl rfl ?_
      refine x_opp rfl rfl ?_
      refine a_baldN (s_66 dy) (k := G) rfl rfl rfl (by omega) (by decide) ?_
      refine a_ifT rfl rfl br_ne (by first | exact th | exact nt_f th | exact tnf th | exact fnt th | exact Int32.not_lt.mp th | exact Int32.not_le.mp th | exact Int32.not_lt.mpr th | exact Int32.not_le.mpr th) ?_
      refine x_opp rfl rfl ?_
      refine x_opp rfl rfl ?_
      refine x_kcg rfl ?_
      refine x_opp rfl rfl ?_
      refine x_go rfl ?_
      refine x_lvs [(0, .ref 65), (1, .int (nI G)), (2, .long 7), (4, .int (nI 0))] rfl rfl rfl ⟨rfl, rfl, rfl, rfl, trivial⟩ ?_
      refine l_dig hG4 mk b4 b1 ?_
      rw [b4, nI_clamp (by omega)]
      exact ⟨rfl, _, rfl, R_up hR⟩
  · refine x_opp rfl rfl ?_
    refine a_callS rfl rfl rfl rfl (c_isGridNumber ?_)
    refine a_ifT rfl rfl br_eqz (by first | exact hg | exact nt_f hg | exact tnf hg | exact fnt hg | exact Int32.not_lt.mp hg | exact Int32.not_le.mp hg | exact Int32.not_lt.mpr hg | exact Int32.not_le.mpr hg) ?_
    refine x_opp rfl rfl ?_
    refine a_lret rfl rfl ?_
    refine ⟨_, dy, _, rfl, rfl, ?_⟩; refine e_intro rfl rfl ?_
    refine x_opp rfl rfl ?_
    refine a_callS rfl rfl rfl rfl (k_isGrid ?_)
    refine a_ifT rfl rfl br_eqz (by first | exact hg | exact nt_f hg | exact tnf hg | exact fnt hg | exact Int32.not_lt.mp hg | exact Int32.not_le.mp hg | exact Int32.not_lt.mpr hg | exact Int32.not_le.mpr hg) ?_
    refine x_opp rfl rfl ?_
    refine a_lret rfl rfl ?_
    exact ⟨rfl, _, rfl, R_up hR⟩
/-- lists that are not dropped -/
def nDr (M : mm_T) (l : Nat) : Bool := decide (M.1 80 l = 0)
def thG (M : mm_T) (g : Nat) : Bool := decide (¬ M.1 66 g = 0)
set_option maxRecDepth 4000 in
theorem l_cA1 (h9 : M.1 65 9 = nI n) (h16 : n ≤ 16) (hq : sm_X L xs d 230 8 (sm_code 230 8) [(0, .ref 65), (1, .int 1), (2, .int (nI (cnt (nDr M) n))), (3, .int (nI 0))] [] (wm (sh0 ++ dy) M) Q) : sm_X L xs d 230 1 (sm_code 230 1) [(0, .ref 65), (1, .int 1), (2, .int (nI 0)), (3, .int (nI 0))] [] (wm (sh0 ++ dy) M) Q := by
  refine loop_dn (P := fun k => sm_X L xs d 230 1 (sm_code 230 1) [(0, .ref 65), (1, .int 1), (2, .int (nI (cnt (nDr M) k))), (3, .int (nI k))] [] (wm (sh0 ++ dy) M) Q) n ?_ ?_
  · have g : nI n ≤ nI n := Int32.le_refl _
    refine x_opp rfl rfl ?_
    refine x_opp rfl rfl ?_
    refine m_getg (s_65 dy) rfl rfl rfl ?_
    rw [h9]
    refine a_icT rfl rfl br_ge (by first | exact g | exact nt_f g | exact tnf g | exact fnt g | exact Int32.not_lt.mp g | exact Int32.not_le.mp g | exact Int32.not_lt.mpr g | exact Int32.not_le.mpr g) ?_
    refine x_kcg rfl ?_
    refine x_opp rfl rfl ?_
    refine x_go rfl ?_
    refine x_lvs [(0, .ref 65), (1, .int 1), (2, .int (nI (cnt (nDr M) n))), (3, .int (nI 0))] rfl rfl rfl ⟨rfl, rfl, rfl, rfl, trivial⟩ ?_
    exact hq
  · intro k hk ih
    have g : ¬ nI n ≤ nI k := nI_ge hk (by omega)
    have n1 : ¬ (1 : Int32) ≠ 1 := fun h => h rfl
    by_cases q : M.1 80 k = 0
    · rw [cnt_t (show nDr M k = true from decide_eq_true q)] at ih
      generalize cnt (nDr M) k = a at ih ⊢
      refine x_opp rfl rfl ?_
      refine x_opp rfl rfl ?_
      refine m_getg (s_65 dy) rfl rfl rfl ?_
      rw [h9]
      refine a_icF rfl rfl br_ge (by first | exact g | exact nt_f g | exact tnf g | exact fnt g | exact Int32.not_lt.mp g | exact Int32.not_le.mp g | exact Int32.not_lt.mpr g | exact Int32.not_le.mpr g) ?_
      refine x_opp rfl rfl ?_
      refine x_opp rfl rfl ?_
      refine x_kcg rfl ?_
      refine a_icF rfl rfl br_ne (by first | exact n1 | exact nt_f n1 | exact tnf n1 | exact fnt n1 | exact Int32.not_lt.mp n1 | exact Int32.not_le.mp n1 | exact Int32.not_lt.mpr n1 | exact Int32.not_le.mpr n1) ?_
      refine x_opp rfl rfl ?_
      refine m_getg (s_65 dy) rfl rfl rfl ?_
      refine x_opp rfl rfl ?_
      refine a_baldN (s_80 dy) (k := k) rfl rfl rfl (by omega) (by decide) ?_
      refine a_ifF rfl rfl br_ne (fun h => h q) ?_
      refine x_kcg rfl ?_
      refine x_go rfl ?_
      refine x_opp rfl rfl ?_
      refine x_opp rfl rfl ?_
      first | refine x_incg rfl rfl ?_ | refine x_opp rfl rfl ?_
      refine x_go rfl ?_
      rw [nI_1]
      refine x_lvs [(0, .ref 65), (1, .int 1), (2, .int (nI (a + 1))), (3, .int (nI (k + 1)))] rfl rfl rfl ⟨rfl, rfl, rfl, rfl, trivial⟩ ?_
      exact ih
    · rw [cnt_f (show nDr M k = false from decide_eq_false q)] at ih
      generalize cnt (nDr M) k = a at ih ⊢
      refine x_opp rfl rfl ?_
      refine x_opp rfl rfl ?_
      refine m_getg (s_65 dy) rfl rfl rfl ?_
      rw [h9]
      refine a_icF rfl rfl br_ge (by first | exact g | exact nt_f g | exact tnf g | exact fnt g | exact Int32.not_lt.mp g | exact Int32.not_le.mp g | exact Int32.not_lt.mpr g | exact Int32.not_le.mpr g) ?_
      refine x_opp rfl rfl ?_
      refine x_opp rfl rfl ?_
      refine x_kcg rfl ?_
      refine a_icF rfl rfl br_ne (by first | exact n1 | exact nt_f n1 | exact tnf n1 | exact fnt n1 | exact Int32.not_lt.mp n1 | exact Int32.not_le.mp n1 | exact Int32.not_lt.mpr n1 | exact Int32.not_le.mpr n1) ?_
      refine x_opp rfl rfl ?_
      refine m_getg (s_65 dy) rfl rfl rfl ?_
      refine x_opp rfl rfl ?_
      refine a_baldN (s_80 dy) (k := k) rfl rfl rfl (by omega) (by decide) ?_
      refine a_ifT rfl rfl br_ne (by first | exact q | exact nt_f q | exact tnf q | exact fnt q | exact Int32.not_lt.mp q | exact Int32.not_le.mp q | exact Int32.not_lt.mpr q | exact Int32.not_le.mpr q) ?_
      refine x_kcg rfl ?_
      refine x_go rfl ?_
      refine x_opp rfl rfl ?_
      refine x_opp rfl rfl ?_
      first | refine x_incg rfl rfl ?_ | refine x_opp rfl rfl ?_
      refine x_go rfl ?_
      rw [a0_32]
      refine x_lvs [(0, .ref 65), (1, .int 1), (2, .int (nI a)), (3, .int (nI (k + 1)))] rfl rfl rfl ⟨rfl, rfl, rfl, rfl, trivial⟩ ?_
      exact ih
set_option maxRecDepth 4000 in
theorem l_cA0 {v : Int32} (hv : v ≠ 1) (h9 : M.1 65 9 = nI n) (h16 : n ≤ 16) (hq : sm_X L xs d 230 8 (sm_code 230 8) [(0, .ref 65), (1, .int v), (2, .int (nI 0)), (3, .int (nI 0))] [] (wm (sh0 ++ dy) M) Q) : sm_X L xs d 230 1 (sm_code 230 1) [(0, .ref 65), (1, .int v), (2, .int (nI 0)), (3, .int (nI 0))] [] (wm (sh0 ++ dy) M) Q := by
  refine loop_dn (P := fun k => sm_X L xs d 230 1 (sm_code 230 1) [(0, .ref 65), (1, .int v), (2, .int (nI 0)), (3, .int (nI k))] [] (wm (sh0 ++ dy) M) Q) n ?_ ?_
  · have g : nI n ≤ nI n := Int32.le_refl _
    refine x_opp rfl rfl ?_
    refine x_opp rfl rfl ?_
    refine m_getg (s_65 dy) rfl rfl rfl ?_
    rw [h9]
    refine a_icT rfl rfl br_ge (by first | exact g | exact nt_f g | exact tnf g | exact fnt g | exact Int32.not_lt.mp g | exact Int32.not_le.mp g | exact Int32.not_lt.mpr g | exact Int32.not_le.mpr g) ?_
    refine x_kcg rfl ?_
    refine x_opp rfl rfl ?_
    refine x_go rfl ?_
    refine x_lvs [(0, .ref 65), (1, .int v), (2, .int (nI 0)), (3, .int (nI 0))] rfl rfl rfl ⟨rfl, rfl, rfl, rfl, trivial⟩ ?_
    exact hq
  · intro k hk ih
    have g : ¬ nI n ≤ nI k := nI_ge hk (by omega)
    refine x_opp rfl rfl ?_
    refine x_opp rfl rfl ?_
    refine m_getg (s_65 dy) rfl rfl rfl ?_
    rw [h9]
    refine a_icF rfl rfl br_ge (by first | exact g | exact nt_f g | exact tnf g | exact fnt g | exact Int32.not_lt.mp g | exact Int32.not_le.mp g | exact Int32.not_lt.mpr g | exact Int32.not_le.mpr g) ?_
    refine x_opp rfl rfl ?_
    refine x_opp rfl rfl ?_
    refine x_kcg rfl ?_
    refine a_icT rfl rfl br_ne (by first | exact hv | exact nt_f hv | exact tnf hv | exact fnt hv | exact Int32.not_lt.mp hv | exact Int32.not_le.mp hv | exact Int32.not_lt.mpr hv | exact Int32.not_le.mpr hv) ?_
    refine x_kcg rfl ?_
    refine x_go rfl ?_
    refine x_opp rfl rfl ?_
    refine x_opp rfl rfl ?_
    first | refine x_incg rfl rfl ?_ | refine x_opp rfl rfl ?_
    refine x_go rfl ?_
    rw [a0_32]
    refine x_lvs [(0, .ref 65), (1, .int v), (2, .int (nI 0)), (3, .int (nI (k + 1)))] rfl rfl rfl ⟨rfl, rfl, rfl, rfl, trivial⟩ ?_
    exact ih
set_option maxRecDepth 4000 in
theorem l_cB1 (hq : sm_X L xs d 230 14 (sm_code 230 14) [(0, .ref 65), (1, .int 2), (2, .int (nI (cnt (thG M) 4)))] [] (wm (sh0 ++ dy) M) Q) : sm_X L xs d 230 8 (sm_code 230 8) [(0, .ref 65), (1, .int 2), (2, .int (nI 0)), (3, .int (nI 0))] [] (wm (sh0 ++ dy) M) Q := by
  refine loop_dn (P := fun k => sm_X L xs d 230 8 (sm_code 230 8) [(0, .ref 65), (1, .int 2), (2, .int (nI (cnt (thG M) k))), (3, .int (nI k))] [] (wm (sh0 ++ dy) M) Q) 4 ?_ ?_
  · have g : (4 : Int32) ≤ nI 4 := by decide
    refine x_opp rfl rfl ?_
    refine x_kcg rfl ?_
    refine a_icT rfl rfl br_ge (by first | exact g | exact nt_f g | exact tnf g | exact fnt g | exact Int32.not_lt.mp g | exact Int32.not_le.mp g | exact Int32.not_lt.mpr g | exact Int32.not_le.mpr g) ?_
    refine x_lvs [(0, .ref 65), (1, .int 2), (2, .int (nI (cnt (thG M) 4)))] rfl rfl rfl ⟨rfl, rfl, rfl, trivial⟩ ?_
    exact hq
  · intro k hk ih
    have g : ¬ (4 : Int32) ≤ nI k := nI_ge (b := 4) hk (by decide)
    have n1 : ¬ (2 : Int32) ≠ 2 := fun h => h rfl
    by_cases q : M.1 66 k = 0
    · rw [cnt_f (show thG M k = false from decide_eq_false (fun h => h q))] at ih
      generalize cnt (thG M) k = a at ih ⊢
      refine x_opp rfl rfl ?_
      refine x_kcg rfl ?_
      refine a_icF rfl rfl br_ge (by first | exact g | exact nt_f g | exact tnf g | exact fnt g | exact Int32.not_lt.mp g | exact Int32.not_le.mp g | exact Int32.not_lt.mpr g | exact Int32.not_le.mpr g) ?_
      refine x_opp rfl rfl ?_
      refine x_opp rfl rfl ?_
      refine x_kcg rfl ?_
      refine a_icF rfl rfl br_ne (by first | exact n1 | exact nt_f n1 | exact tnf n1 | exact fnt n1 | exact Int32.not_lt.mp n1 | exact Int32.not_le.mp n1 | exact Int32.not_lt.mpr n1 | exact Int32.not_le.mpr n1) ?_
      refine x_opp rfl rfl ?_
      refine m_getg (s_65 dy) rfl rfl rfl ?_
      refine x_opp rfl rfl ?_
      refine a_baldN (s_66 dy) (k := k) rfl rfl rfl (by omega) (by decide) ?_
      refine a_ifT rfl rfl br_eq (by first | exact q | exact nt_f q | exact tnf q | exact fnt q | exact Int32.not_lt.mp q | exact Int32.not_le.mp q | exact Int32.not_lt.mpr q | exact Int32.not_le.mpr q) ?_
      refine x_kcg rfl ?_
      refine x_go rfl ?_
      refine x_opp rfl rfl ?_
      refine x_opp rfl rfl ?_
      first | refine x_incg rfl rfl ?_ | refine x_opp rfl rfl ?_
      refine x_go rfl ?_
      rw [a0_32]
      refine x_lvs [(0, .ref 65), (1, .int 2), (2, .int (nI a)), (3, .int (nI (k + 1)))] rfl rfl rfl ⟨rfl, rfl, rfl, rfl, trivial⟩ ?_
      exact ih
    · rw [cnt_t (show thG M k = true from decide_eq_true q)] at ih
      generalize cnt (thG M) k = a at ih ⊢
      refine x_opp rfl rfl ?_
      refine x_kcg rfl ?_
      refine a_icF rfl rfl br_ge (by first | exact g | exact nt_f g | exact tnf g | exact fnt g | exact Int32.not_lt.mp g | exact Int32.not_le.mp g | exact Int32.not_lt.mpr g | exact Int32.not_le.mpr g) ?_
      refine x_opp rfl rfl ?_
      refine x_opp rfl rfl ?_
      refine x_kcg rfl ?_
      refine a_icF rfl rfl br_ne (by first | exact n1 | exact nt_f n1 | exact tnf n1 | exact fnt n1 | exact Int32.not_lt.mp n1 | exact Int32.not_le.mp n1 | exact Int32.not_lt.mpr n1 | exact Int32.not_le.mpr n1) ?_
      refine x_opp rfl rfl ?_
      refine m_getg (s_65 dy) rfl rfl rfl ?_
      refine x_opp rfl rfl ?_
      refine a_baldN (s_66 dy) (k := k) rfl rfl rfl (by omega) (by decide) ?_
      refine a_ifF rfl rfl br_eq (by first | exact q | exact nt_f q | exact tnf q | exact fnt q | exact Int32.not_lt.mp q | exact Int32.not_le.mp q | exact Int32.not_lt.mpr q | exact Int32.not_le.mpr q) ?_
      refine x_kcg rfl ?_
      refine x_go rfl ?_
      refine x_opp rfl rfl ?_
      refine x_opp rfl rfl ?_
      first | refine x_incg rfl rfl ?_ | refine x_opp rfl rfl ?_
      refine x_go rfl ?_
      rw [nI_1]
      refine x_lvs [(0, .ref 65), (1, .int 2), (2, .int (nI (a + 1))), (3, .int (nI (k + 1)))] rfl rfl rfl ⟨rfl, rfl, rfl, rfl, trivial⟩ ?_
      exact ih
set_option maxRecDepth 4000 in
theorem l_cB0 {v : Int32} {m : Nat} (hv : v ≠ 2) (hq : sm_X L xs d 230 14 (sm_code 230 14) [(0, .ref 65), (1, .int v), (2, .int (nI m))] [] (wm (sh0 ++ dy) M) Q) : sm_X L xs d 230 8 (sm_code 230 8) [(0, .ref 65), (1, .int v), (2, .int (nI m)), (3, .int (nI 0))] [] (wm (sh0 ++ dy) M) Q := by
  refine loop_dn (P := fun k => sm_X L xs d 230 8 (sm_code 230 8) [(0, .ref 65), (1, .int v), (2, .int (nI m)), (3, .int (nI k))] [] (wm (sh0 ++ dy) M) Q) 4 ?_ ?_
  · have g : (4 : Int32) ≤ nI 4 := by decide
    refine x_opp rfl rfl ?_
    refine x_kcg rfl ?_
    refine a_icT rfl rfl br_ge (by first | exact g | exact nt_f g | exact tnf g | exact fnt g | exact Int32.not_lt.mp g | exact Int32.not_le.mp g | exact Int32.not_lt.mpr g | exact Int32.not_le.mpr g) ?_
    refine x_lvs [(0, .ref 65), (1, .int v), (2, .int (nI m))] rfl rfl rfl ⟨rfl, rfl, rfl, trivial⟩ ?_
    exact hq
  · intro k hk ih
    have g : ¬ (4 : Int32) ≤ nI k := nI_ge (b := 4) hk (by decide)
    refine x_opp rfl rfl ?_
    refine x_kcg rfl ?_
    refine a_icF rfl rfl br_ge (by first | exact g | exact nt_f g | exact tnf g | exact fnt g | exact Int32.not_lt.mp g | exact Int32.not_le.mp g | exact Int32.not_lt.mpr g | exact Int32.not_le.mpr g) ?_
    refine x_opp rfl rfl ?_
    refine x_opp rfl rfl ?_
    refine x_kcg rfl ?_
    refine a_icT rfl rfl br_ne (by first | exact hv | exact nt_f hv | exact tnf hv | exact fnt hv | exact Int32.not_lt.mp hv | exact Int32.not_le.mp hv | exact Int32.not_lt.mpr hv | exact Int32.not_le.mpr hv) ?_
    refine x_kcg rfl ?_
    refine x_go rfl ?_
    refine x_opp rfl rfl ?_
    refine x_opp rfl rfl ?_
    first | refine x_incg rfl rfl ?_ | refine x_opp rfl rfl ?_
    refine x_go rfl ?_
    rw [a0_32]
    refine x_lvs [(0, .ref 65), (1, .int v), (2, .int (nI m)), (3, .int (nI (k + 1)))] rfl rfl rfl ⟨rfl, rfl, rfl, rfl, trivial⟩ ?_
    exact ih
set_option maxRecDepth 4000 in
theorem c_gth (h : rG M n) (hq : Q (some (.int (nI (cnt (thG M) 4)))) (wm (sh0 ++ dy) M)) : sm_E L xs (d + 1) 146 [.ref 0] (wm (sh0 ++ dy) M) Q := by
  refine e_intro rfl rfl ?_
  refine x_kcg rfl ?_
  refine x_opp rfl rfl ?_
  refine x_kcg rfl ?_
  refine x_opp rfl rfl ?_
  refine x_go rfl ?_
  refine x_lvs [(0, .ref 0), (1, .int (nI 0)), (2, .int (nI 0))] rfl rfl rfl ⟨rfl, rfl, rfl, trivial⟩ ?_
  refine loop_dn (P := fun k => sm_X L xs d 146 1 (sm_code 146 1) [(0, .ref 0), (1, .int (nI (cnt (thG M) k))), (2, .int (nI k))] [] (wm (sh0 ++ dy) M) Q) 4 ?_ ?_
  · have g : (4 : Int32) ≤ nI 4 := by decide
    refine x_opp rfl rfl ?_
    refine x_kcg rfl ?_
    refine a_icT rfl rfl br_ge (by first | exact g | exact nt_f g | exact tnf g | exact fnt g | exact Int32.not_lt.mp g | exact Int32.not_le.mp g | exact Int32.not_lt.mpr g | exact Int32.not_le.mpr g) ?_
    refine x_opp rfl rfl ?_
    refine a_iret rfl rfl rfl ?_
    exact hq
  · intro G hG4 ih
    have g : ¬ (4 : Int32) ≤ nI G := nI_ge (b := 4) hG4 (by decide)
    have hgr := h.2.1 G hG4
    obtain ⟨sg, -⟩ := gsh_at dy G hG4
    have a1 := (h.2.2 G hG4).1.1
    by_cases q : M.1 66 G = 0
    · rw [cnt_f (show thG M G = false from decide_eq_false (fun h => h q))] at ih
      have q1 : M.1 (45 + 5 * G) 4 = 0 := a1.trans q
      generalize cnt (thG M) G = a at ih ⊢
      refine x_opp rfl rfl ?_
      refine x_kcg rfl ?_
      refine a_icF rfl rfl br_ge (by first | exact g | exact nt_f g | exact tnf g | exact fnt g | exact Int32.not_lt.mp g | exact Int32.not_le.mp g | exact Int32.not_lt.mpr g | exact Int32.not_le.mpr g) ?_
      refine x_opp rfl rfl ?_
      refine m_getg (s_0 dy) rfl rfl rfl ?_
      refine x_opp rfl rfl ?_
      refine a_gr hG4 rfl rfl hgr ?_
      refine m_getg sg rfl rfl rfl ?_
      refine a_ifT rfl rfl br_eq (by first | exact q1 | exact nt_f q1 | exact tnf q1 | exact fnt q1 | exact Int32.not_lt.mp q1 | exact Int32.not_le.mp q1 | exact Int32.not_lt.mpr q1 | exact Int32.not_le.mpr q1) ?_
      first | refine x_incg rfl rfl ?_ | refine x_opp rfl rfl ?_
      refine x_go rfl ?_
      refine x_lvs [(0, .ref 0), (1, .int (nI a)), (2, .int (nI (G + 1)))] rfl rfl rfl ⟨rfl, rfl, rfl, trivial⟩ ?_
      exact ih
    · rw [cnt_t (show thG M G = true from decide_eq_true q)] at ih
      have q1 : ¬ M.1 (45 + 5 * G) 4 = 0 := by rw [a1]; exact q
      generalize cnt (thG M) G = a at ih ⊢
      refine x_opp rfl rfl ?_
      refine x_kcg rfl ?_
      refine a_icF rfl rfl br_ge (by first | exact g | exact nt_f g | exact tnf g | exact fnt g | exact Int32.not_lt.mp g | exact Int32.not_le.mp g | exact Int32.not_lt.mpr g | exact Int32.not_le.mpr g) ?_
      refine x_opp rfl rfl ?_
      refine m_getg (s_0 dy) rfl rfl rfl ?_
      refine x_opp rfl rfl ?_
      refine a_gr hG4 rfl rfl hgr ?_
      refine m_getg sg rfl rfl rfl ?_
      refine a_ifF rfl rfl br_eq (by first | exact q1 | exact nt_f q1 | exact tnf q1 | exact fnt q1 | exact Int32.not_lt.mp q1 | exact Int32.not_le.mp q1 | exact Int32.not_lt.mpr q1 | exact Int32.not_le.mpr q1) ?_
      first | refine x_incg rfl rfl ?_ | refine x_opp rfl rfl ?_
      refine x_go rfl ?_
      first | refine x_incg rfl rfl ?_ | refine x_opp rfl rfl ?_
      refine x_go rfl ?_
      refine x_lvs [(0, .ref 0), (1, .int (nI (a + 1))), (2, .int (nI (G + 1)))] rfl rfl rfl ⟨rfl, rfl, rfl, trivial⟩ ?_
      exact ih
set_option maxRecDepth 4000 in
theorem p_count {v : Int32} (h : rR t dy M) : pr L xs t dy M 144 230 [.int v] := by
  have hR := h
  obtain ⟨s, E, P, w, n, hG, hN, hL, hS, hQ⟩ := h
  unfold pr; refine e_intro rfl rfl ?_
  have h16 : n ≤ 16 := hL.1.1
  have c43 : M.1 4 3 = nI n := hL.2.1.1
  have h9 : M.1 65 9 = nI n := hL.2.2.2.1
  by_cases hv : gRow (nI 5) v = true
  · obtain ⟨k, hk, rfl⟩ := gRow_m (by decide) hv
    rcases (show k = 0 ∨ k = 1 ∨ k = 2 ∨ k = 3 ∨ k = 4 by omega) with rfl | rfl | rfl | rfl | rfl
    · refine x_opp rfl rfl ?_
      refine x_tabIn (by decide) rfl ?_
      refine x_opp rfl rfl ?_
      refine m_getg (s_0 dy) rfl rfl rfl ?_
      refine m_getg (s_4 dy) rfl rfl rfl ?_
      refine a_iret rfl rfl rfl ?_
      refine ⟨_, dy, _, rfl, rfl, ?_⟩; refine e_intro rfl rfl ?_
      refine x_kcg rfl ?_
      refine x_opp rfl rfl ?_
      refine x_kcg rfl ?_
      refine x_opp rfl rfl ?_
      refine x_go rfl ?_
      refine x_lvs [(0, .ref 65), (1, .int (nI 0)), (2, .int (nI 0)), (3, .int (nI 0))] rfl rfl rfl ⟨rfl, rfl, rfl, rfl, trivial⟩ ?_
      refine l_cA0 (by decide) h9 h16 (l_cB0 (by decide) ?_)
      refine x_opp rfl rfl ?_
      refine a_ifF rfl rfl br_ne (fun h => h rfl) ?_
      refine x_opp rfl rfl ?_
      refine m_getg (s_65 dy) rfl rfl rfl ?_
      refine x_go rfl ?_
      refine a_iret rfl rfl rfl ?_
      exact ⟨by rw [h9, c43], _, rfl, R_up hR⟩
    · refine x_opp rfl rfl ?_
      refine x_tabIn (by decide) rfl ?_
      refine x_opp rfl rfl ?_
      refine m_getg (s_0 dy) rfl rfl rfl ?_
      refine a_callV (s_4 dy) rfl rfl rfl rfl (c_those (ssh dy) c43 h16 ?_)
      refine a_iret rfl rfl rfl ?_
      refine ⟨_, dy, _, rfl, rfl, ?_⟩; refine e_intro rfl rfl ?_
      refine x_kcg rfl ?_
      refine x_opp rfl rfl ?_
      refine x_kcg rfl ?_
      refine x_opp rfl rfl ?_
      refine x_go rfl ?_
      refine x_lvs [(0, .ref 65), (1, .int 1), (2, .int (nI 0)), (3, .int (nI 0))] rfl rfl rfl ⟨rfl, rfl, rfl, rfl, trivial⟩ ?_
      refine l_cA1 h9 h16 (l_cB0 (by decide) ?_)
      refine x_opp rfl rfl ?_
      refine a_ifT rfl rfl br_ne (by decide) ?_
      refine x_opp rfl rfl ?_
      refine x_kcg rfl ?_
      refine a_icT rfl rfl br_eq (by decide) ?_
      refine x_opp rfl rfl ?_
      refine x_go rfl ?_
      refine a_iret rfl rfl rfl ?_
      refine ⟨?_, _, rfl, R_up hR⟩
      have ec : cnt (thr (M.2.2 5)) n = cnt (nDr M) n := cnt_eq (fun l hl => by
        have q1 := (hL.2.1.2 l hl).2.2.2
        have q2 := (hL.2.2.1 l hl).2.2.2.2.1
        unfold thr nDr
        rw [q1, q2]
        cases lDr (E l) <;> rfl)
      rw [ec]
    · refine x_opp rfl rfl ?_
      refine x_tabIn (by decide) rfl ?_
      refine x_opp rfl rfl ?_
      refine a_callV (s_0 dy) rfl rfl rfl rfl (c_gth hG ?_)
      refine a_iret rfl rfl rfl ?_
      refine ⟨_, dy, _, rfl, rfl, ?_⟩; refine e_intro rfl rfl ?_
      refine x_kcg rfl ?_
      refine x_opp rfl rfl ?_
      refine x_kcg rfl ?_
      refine x_opp rfl rfl ?_
      refine x_go rfl ?_
      refine x_lvs [(0, .ref 65), (1, .int 2), (2, .int (nI 0)), (3, .int (nI 0))] rfl rfl rfl ⟨rfl, rfl, rfl, rfl, trivial⟩ ?_
      refine l_cA0 (by decide) h9 h16 (l_cB1 ?_)
      refine x_opp rfl rfl ?_
      refine a_ifT rfl rfl br_ne (by decide) ?_
      refine x_opp rfl rfl ?_
      refine x_kcg rfl ?_
      refine a_icF rfl rfl br_eq (by decide) ?_
      refine x_opp rfl rfl ?_
      refine x_kcg rfl ?_
      refine a_icF rfl rfl br_ne (fun h => h rfl) ?_
      refine x_opp rfl rfl ?_
      refine x_go rfl ?_
      refine a_iret rfl rfl rfl ?_
      exact ⟨rfl, _, rfl, R_up hR⟩
    · refine x_opp rfl rfl ?_
      refine x_tabIn (by decide) rfl ?_
      refine x_opp rfl rfl ?_
      refine m_getg (s_0 dy) rfl rfl rfl ?_
      refine a_iret rfl rfl rfl ?_
      refine ⟨_, dy, _, rfl, rfl, ?_⟩; refine e_intro rfl rfl ?_
      refine x_kcg rfl ?_
      refine x_opp rfl rfl ?_
      refine x_kcg rfl ?_
      refine x_opp rfl rfl ?_
      refine x_go rfl ?_
      refine x_lvs [(0, .ref 65), (1, .int (nI 3)), (2, .int (nI 0)), (3, .int (nI 0))] rfl rfl rfl ⟨rfl, rfl, rfl, rfl, trivial⟩ ?_
      refine l_cA0 (by decide) h9 h16 (l_cB0 (by decide) ?_)
      refine x_opp rfl rfl ?_
      refine a_ifT rfl rfl br_ne (by decide) ?_
      refine x_opp rfl rfl ?_
      refine x_kcg rfl ?_
      refine a_icF rfl rfl br_eq (by decide) ?_
      refine x_opp rfl rfl ?_
      refine x_kcg rfl ?_
      refine a_icT rfl rfl br_ne (by decide) ?_
      refine x_opp rfl rfl ?_
      refine x_kcg rfl ?_
      refine a_icF rfl rfl br_ne (fun h => h rfl) ?_
      refine x_opp rfl rfl ?_
      refine m_getg (s_65 dy) rfl rfl rfl ?_
      refine x_go rfl ?_
      refine a_iret rfl rfl rfl ?_
      exact ⟨congrArg (fun x => some (Value.int x)) hQ.2.2.1.symm, _, rfl, R_up hR⟩
    · refine x_opp rfl rfl ?_
      refine x_tabIn (by decide) rfl ?_
      refine x_opp rfl rfl ?_
      refine m_getg (s_0 dy) rfl rfl rfl ?_
      refine m_getg (s_1 dy) rfl rfl rfl ?_
      refine a_iret rfl rfl rfl ?_
      refine ⟨_, dy, _, rfl, rfl, ?_⟩; refine e_intro rfl rfl ?_
      refine x_kcg rfl ?_
      refine x_opp rfl rfl ?_
      refine x_kcg rfl ?_
      refine x_opp rfl rfl ?_
      refine x_go rfl ?_
      refine x_lvs [(0, .ref 65), (1, .int (nI 4)), (2, .int (nI 0)), (3, .int (nI 0))] rfl rfl rfl ⟨rfl, rfl, rfl, rfl, trivial⟩ ?_
      refine l_cA0 (by decide) h9 h16 (l_cB0 (by decide) ?_)
      refine x_opp rfl rfl ?_
      refine a_ifT rfl rfl br_ne (by decide) ?_
      refine x_opp rfl rfl ?_
      refine x_kcg rfl ?_
      refine a_icF rfl rfl br_eq (by decide) ?_
      refine x_opp rfl rfl ?_
      refine x_kcg rfl ?_
      refine a_icT rfl rfl br_ne (by decide) ?_
      refine x_opp rfl rfl ?_
      refine x_kcg rfl ?_
      refine a_icT rfl rfl br_ne (by decide) ?_
      refine x_opp rfl rfl ?_
      refine x_kcg rfl ?_
      refine a_icF rfl rfl br_ne (fun h => h rfl) ?_
      refine x_opp rfl rfl ?_
      refine m_getg (s_65 dy) rfl rfl rfl ?_
      refine x_go rfl ?_
      refine a_iret rfl rfl rfl ?_
      exact ⟨by rw [hN.1.2.2.1, hN.2.1.1], _, rfl, R_up hR⟩
  · have ne : ∀ k, k < 5 → v ≠ nI k := by
      intro k hk e
      rw [e] at hv
      refine hv ?_
      rcases (show k = 0 ∨ k = 1 ∨ k = 2 ∨ k = 3 ∨ k = 4 by omega) with rfl | rfl | rfl | rfl | rfl <;> decide
    have out : v.toInt < 0 ∨ 4 < v.toInt := by
      rcases gRow_f hv with q | ⟨q0, q⟩
      · rw [Int32.lt_iff_toInt_lt] at q
        exact Or.inl q
      · rw [Int32.le_iff_toInt_le, nI_toInt (by decide)] at q
        exact Or.inr (by omega)
    refine x_opp rfl rfl ?_
    refine x_tabOut out ?_
    refine x_kcg rfl ?_
    refine a_iret rfl rfl rfl ?_
    refine ⟨_, dy, _, rfl, rfl, ?_⟩; refine e_intro rfl rfl ?_
    refine x_kcg rfl ?_
    refine x_opp rfl rfl ?_
    refine x_kcg rfl ?_
    refine x_opp rfl rfl ?_
    refine x_go rfl ?_
    refine x_lvs [(0, .ref 65), (1, .int v), (2, .int (nI 0)), (3, .int (nI 0))] rfl rfl rfl ⟨rfl, rfl, rfl, rfl, trivial⟩ ?_
    refine l_cA0 (ne 1 (by decide)) h9 h16 (l_cB0 (ne 2 (by decide)) ?_)
    refine x_opp rfl rfl ?_
    refine a_ifT rfl rfl br_ne (ne 0 (by decide)) ?_
    refine x_opp rfl rfl ?_
    refine x_kcg rfl ?_
    refine a_icF rfl rfl br_eq (ne 1 (by decide)) ?_
    refine x_opp rfl rfl ?_
    refine x_kcg rfl ?_
    refine a_icT rfl rfl br_ne (ne 2 (by decide)) ?_
    refine x_opp rfl rfl ?_
    refine x_kcg rfl ?_
    refine a_icT rfl rfl br_ne (ne 3 (by decide)) ?_
    refine x_opp rfl rfl ?_
    refine x_kcg rfl ?_
    refine a_icT rfl rfl br_ne (ne 4 (by decide)) ?_
    refine x_kcg rfl ?_
    refine x_go rfl ?_
    refine a_iret rfl rfl rfl ?_
    exact ⟨rfl, _, rfl, R_up hR⟩
end DG
