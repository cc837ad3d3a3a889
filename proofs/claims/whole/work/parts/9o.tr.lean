/-! turns and mirrors: when they can't be -/
/-- a row is lacking; a row is cut -/
def lkG (M : mm_T) (G : Nat) : Bool := anyB (gLack (mL M G)) (M.1 67 G).toNatClampNeg
def ctG (M : mm_T) (G : Nat) : Bool := anyB (gCut (mL M G) (M.1 68 G)) (M.1 67 G).toNatClampNeg
theorem anyB_ext {p q : Nat → Bool} {n : Nat} (h : ∀ i, i < n → p i = q i) : anyB p n = anyB q n := by
  induction n with
  | zero => rfl
  | succ n ih =>
    unfold anyB
    rw [ih (fun i hi => h i (by omega)), h n (by omega)]
section TR
variable {L : Nat} {xs : Nat → Int32} {t d : Nat} {dy : List sh_T} {M : mm_T} {Q : Option Value → sm_W → Prop} {n G : Nat}
theorem c_lk (h : rG M n) (hG : G < 4) (hq : Q (some (.int (zz (lkG M G)))) (wm (sh0 ++ dy) M)) : sm_E L xs (d + 1) 131 [.ref (45 + 5 * G)] (wm (sh0 ++ dy) M) Q := by
  obtain ⟨H, W, b1, b2, b3, b4, b5, b6, gk, mk, v1, v2, a1, a2⟩ := rG_v h hG
  refine c_lacksRow (gsh_at dy G hG) b3 b1 ?_
  have e : anyB (gLack (M.1 (47 + 5 * G))) H = lkG M G := by
    unfold lkG
    rw [b4, nI_clamp (by omega)]
    refine anyB_ext (fun i hi => ?_)
    unfold gLack
    rw [v2.1 i (by omega)]
  rw [e]
  exact hq
theorem c_ct (h : rG M n) (hG : G < 4) (hq : Q (some (.int (zz (!(ctG M G))))) (wm (sh0 ++ dy) M)) : sm_E L xs (d + 1) 132 [.ref (45 + 5 * G)] (wm (sh0 ++ dy) M) Q := by
  obtain ⟨H, W, b1, b2, b3, b4, b5, b6, gk, mk, v1, v2, a1, a2⟩ := rG_v h hG
  refine c_isUncut (gsh_at dy G hG) b3 b1 ?_
  have e : anyB (gCut (M.1 (47 + 5 * G)) (M.1 (45 + 5 * G) 6)) H = ctG M G := by
    unfold ctG
    rw [b4, nI_clamp (by omega)]
    refine anyB_ext (fun i hi => ?_)
    unfold gCut
    rw [v2.1 i (by omega), b5, b6]
  rw [e]
  exact hq
set_option maxRecDepth 4000 in
theorem c_tref1 (h : rG M n) (hG4 : G < 4) (hb : M.1 66 G = 0 ∨ (¬ M.1 66 G = 0 ∧ lkG M G = true)) (hq : Q (some (.int (-10 - nI 1))) (wm (sh0 ++ dy) (nFind M 1 3 (nI 1)))) : sm_E L xs (d + 3) 130 [.ref 0, .int (nI G)] (wm (sh0 ++ dy) M) Q := by
  have hg : gRow 4 (nI G) = true := by rcases (show G = 0 ∨ G = 1 ∨ G = 2 ∨ G = 3 by omega) with rfl | rfl | rfl | rfl <;> rfl
  have hgr := h.2.1 G hG4
  obtain ⟨sg, -⟩ := gsh_at dy G hG4
  have a1 := (h.2.2 G hG4).1.1
  refine e_intro rfl rfl ?_
  rcases hb with th | ⟨th, lk⟩
  · have th1 : M.1 (45 + 5 * G) 4 = 0 := a1.trans th
    refine x_opp rfl rfl ?_
    refine a_callS rfl rfl rfl rfl (c_isGridNumber ?_)
    refine a_ifT rfl rfl br_nez (by first | exact hg | exact nt_f hg | exact tnf hg | exact fnt hg | exact Int32.not_lt.mp hg | exact Int32.not_le.mp hg | exact Int32.not_lt.mpr hg | exact Int32.not_le.mpr hg) ?_
    refine x_opp rfl rfl ?_
    refine m_getg (s_0 dy) rfl rfl rfl ?_
    refine x_opp rfl rfl ?_
    refine a_gr hG4 rfl rfl hgr ?_
    refine m_getg sg rfl rfl rfl ?_
    refine a_ifT rfl rfl br_eq (by first | exact th1 | exact nt_f th1 | exact tnf th1 | exact fnt th1 | exact Int32.not_lt.mp th1 | exact Int32.not_le.mp th1 | exact Int32.not_lt.mpr th1 | exact Int32.not_le.mpr th1) ?_
    refine x_opp rfl rfl ?_
    refine m_getg (s_0 dy) rfl rfl rfl ?_
    refine x_kcg rfl ?_
    refine a_callV (s_1 dy) rfl rfl rfl rfl (c_find (s_1 dy) (s_3 dy) (by decide) (vp_in_nI (n := 1) (by decide) (by decide)) ?_)
    refine a_iret rfl rfl rfl ?_
    exact hq
  · have th1 : ¬ M.1 (45 + 5 * G) 4 = 0 := by rw [a1]; exact th
    refine x_opp rfl rfl ?_
    refine a_callS rfl rfl rfl rfl (c_isGridNumber ?_)
    refine a_ifT rfl rfl br_nez (by first | exact hg | exact nt_f hg | exact tnf hg | exact fnt hg | exact Int32.not_lt.mp hg | exact Int32.not_le.mp hg | exact Int32.not_lt.mpr hg | exact Int32.not_le.mpr hg) ?_
    refine x_opp rfl rfl ?_
    refine m_getg (s_0 dy) rfl rfl rfl ?_
    refine x_opp rfl rfl ?_
    refine a_gr hG4 rfl rfl hgr ?_
    refine m_getg sg rfl rfl rfl ?_
    refine a_ifF rfl rfl br_eq (by first | exact th1 | exact nt_f th1 | exact tnf th1 | exact fnt th1 | exact Int32.not_lt.mp th1 | exact Int32.not_le.mp th1 | exact Int32.not_lt.mpr th1 | exact Int32.not_le.mpr th1) ?_
    refine x_opp rfl rfl ?_
    refine m_getg (s_0 dy) rfl rfl rfl ?_
    refine x_opp rfl rfl ?_
    refine a_gr hG4 rfl rfl hgr ?_
    refine a_callV sg rfl rfl rfl rfl (c_lk h hG4 ?_)
    refine a_ifF rfl rfl br_eqz (by first | exact lk | exact nt_f lk | exact tnf lk | exact fnt lk | exact Int32.not_lt.mp lk | exact Int32.not_le.mp lk | exact Int32.not_lt.mpr lk | exact Int32.not_le.mpr lk) ?_
    refine x_opp rfl rfl ?_
    refine m_getg (s_0 dy) rfl rfl rfl ?_
    refine x_kcg rfl ?_
    refine a_callV (s_1 dy) rfl rfl rfl rfl (c_find (s_1 dy) (s_3 dy) (by decide) (vp_in_nI (n := 1) (by decide) (by decide)) ?_)
    refine a_iret rfl rfl rfl ?_
    exact hq
set_option maxRecDepth 4000 in
theorem c_tref2 {b : Bool} (h : rG M n) (hG4 : G < 4) (th : ¬ M.1 66 G = 0) (lk : lkG M G = false) (hb : ctG M G = b) (hq : Q (some (.int (if b = true then -2 else 0))) (wm (sh0 ++ dy) M)) : sm_E L xs (d + 3) 130 [.ref 0, .int (nI G)] (wm (sh0 ++ dy) M) Q := by
  have hg : gRow 4 (nI G) = true := by rcases (show G = 0 ∨ G = 1 ∨ G = 2 ∨ G = 3 by omega) with rfl | rfl | rfl | rfl <;> rfl
  have hgr := h.2.1 G hG4
  obtain ⟨sg, -⟩ := gsh_at dy G hG4
  have a1 := (h.2.2 G hG4).1.1
  have th1 : ¬ M.1 (45 + 5 * G) 4 = 0 := by rw [a1]; exact th
  refine e_intro rfl rfl ?_
  cases b with
  | true =>
    refine x_opp rfl rfl ?_
    refine a_callS rfl rfl rfl rfl (c_isGridNumber ?_)
    refine a_ifT rfl rfl br_nez (by first | exact hg | exact nt_f hg | exact tnf hg | exact fnt hg | exact Int32.not_lt.mp hg | exact Int32.not_le.mp hg | exact Int32.not_lt.mpr hg | exact Int32.not_le.mpr hg) ?_
    refine x_opp rfl rfl ?_
    refine m_getg (s_0 dy) rfl rfl rfl ?_
    refine x_opp rfl rfl ?_
    refine a_gr hG4 rfl rfl hgr ?_
    refine m_getg sg rfl rfl rfl ?_
    refine a_ifF rfl rfl br_eq (by first | exact th1 | exact nt_f th1 | exact tnf th1 | exact fnt th1 | exact Int32.not_lt.mp th1 | exact Int32.not_le.mp th1 | exact Int32.not_lt.mpr th1 | exact Int32.not_le.mpr th1) ?_
    refine x_opp rfl rfl ?_
    refine m_getg (s_0 dy) rfl rfl rfl ?_
    refine x_opp rfl rfl ?_
    refine a_gr hG4 rfl rfl hgr ?_
    refine a_callV sg rfl rfl rfl rfl (c_lk h hG4 ?_)
    refine a_ifT rfl rfl br_eqz (by first | exact lk | exact nt_f lk | exact tnf lk | exact fnt lk | exact Int32.not_lt.mp lk | exact Int32.not_le.mp lk | exact Int32.not_lt.mpr lk | exact Int32.not_le.mpr lk) ?_
    refine x_opp rfl rfl ?_
    refine m_getg (s_0 dy) rfl rfl rfl ?_
    refine x_opp rfl rfl ?_
    refine a_gr hG4 rfl rfl hgr ?_
    refine a_callV sg rfl rfl rfl rfl (c_ct h hG4 ?_)
    rw [hb]
    refine a_ifT rfl rfl br_eqz (by first | exact rfl | exact nt_f rfl | exact tnf rfl | exact fnt rfl | exact Int32.not_lt.mp rfl | exact Int32.not_le.mp rfl | exact Int32.not_lt.mpr rfl | exact Int32.not_le.mpr rfl) ?_
    refine x_kcg rfl ?_
    refine x_go rfl ?_
    refine a_iret rfl rfl rfl ?_
    exact hq
  | false =>
    refine x_opp rfl rfl ?_
    refine a_callS rfl rfl rfl rfl (c_isGridNumber ?_)
    refine a_ifT rfl rfl br_nez (by first | exact hg | exact nt_f hg | exact tnf hg | exact fnt hg | exact Int32.not_lt.mp hg | exact Int32.not_le.mp hg | exact Int32.not_lt.mpr hg | exact Int32.not_le.mpr hg) ?_
    refine x_opp rfl rfl ?_
    refine m_getg (s_0 dy) rfl rfl rfl ?_
    refine x_opp rfl rfl ?_
    refine a_gr hG4 rfl rfl hgr ?_
    refine m_getg sg rfl rfl rfl ?_
    refine a_ifF rfl rfl br_eq (by first | exact th1 | exact nt_f th1 | exact tnf th1 | exact fnt th1 | exact Int32.not_lt.mp th1 | exact Int32.not_le.mp th1 | exact Int32.not_lt.mpr th1 | exact Int32.not_le.mpr th1) ?_
    refine x_opp rfl rfl ?_
    refine m_getg (s_0 dy) rfl rfl rfl ?_
    refine x_opp rfl rfl ?_
    refine a_gr hG4 rfl rfl hgr ?_
    refine a_callV sg rfl rfl rfl rfl (c_lk h hG4 ?_)
    refine a_ifT rfl rfl br_eqz (by first | exact lk | exact nt_f lk | exact tnf lk | exact fnt lk | exact Int32.not_lt.mp lk | exact Int32.not_le.mp lk | exact Int32.not_lt.mpr lk | exact Int32.not_le.mpr lk) ?_
    refine x_opp rfl rfl ?_
    refine m_getg (s_0 dy) rfl rfl rfl ?_
    refine x_opp rfl rfl ?_
    refine a_gr hG4 rfl rfl hgr ?_
    refine a_callV sg rfl rfl rfl rfl (c_ct h hG4 ?_)
    rw [hb]
    refine a_ifF rfl rfl br_eqz (tnf rfl) ?_
    refine x_kcg rfl ?_
    refine x_go rfl ?_
    refine a_iret rfl rfl rfl ?_
    exact hq

set_option maxRecDepth 4000 in
theorem l_unfit {H : Nat} (hG : G < 4) (hk : mgOK M G) (hH : M.1 67 G = nI H) (hH7 : H ≤ 7) (hq : sm_X L xs (d + 1) 223 13 (sm_code 223 13) [(0, .ref 65), (2, .int (zz (anyB (gLack (mL M G)) H))), (3, .int (zz (anyB (gCut (mL M G) (M.1 68 G)) H)))] [] (wm (sh0 ++ dy) M) Q) : sm_X L xs (d + 1) 223 3 (sm_code 223 3) [(0, .ref 65), (1, .int (nI G)), (2, .int 0), (3, .int 0), (4, .int (nI 0))] [] (wm (sh0 ++ dy) M) Q := by
  refine loop_dn (P := fun i => sm_X L xs (d + 1) 223 3 (sm_code 223 3) [(0, .ref 65), (1, .int (nI G)), (2, .int (zz (anyB (gLack (mL M G)) i))), (3, .int (zz (anyB (gCut (mL M G) (M.1 68 G)) i))), (4, .int (nI i))] [] (wm (sh0 ++ dy) M) Q) H ?_ ?_
  · have g : nI H ≤ nI H := Int32.le_refl _
    refine x_opp rfl rfl ?_
    refine x_opp rfl rfl ?_
    refine m_getg (s_65 dy) rfl rfl rfl ?_
    refine x_opp rfl rfl ?_
    refine a_ialdN (s_67 dy) (k := G) rfl rfl rfl (by omega) (by decide) ?_
    rw [hH]
    refine a_icT rfl rfl br_ge (by first | exact g | exact nt_f g | exact tnf g | exact fnt g | exact Int32.not_lt.mp g | exact Int32.not_le.mp g | exact Int32.not_lt.mpr g | exact Int32.not_le.mpr g) ?_
    refine x_lvs [(0, .ref 65), (2, .int (zz (anyB (gLack (mL M G)) H))), (3, .int (zz (anyB (gCut (mL M G) (M.1 68 G)) H)))] rfl rfl rfl ⟨rfl, rfl, rfl, trivial⟩ ?_
    exact hq
  · intro i hi ih
    have g : ¬ nI H ≤ nI i := nI_ge hi (by omega)
    have i7 : i < 7 := by omega
    have e1 : anyB (gLack (mL M G)) (i + 1) = (anyB (gLack (mL M G)) i || gLack (mL M G) i) := rfl
    have e2 : anyB (gCut (mL M G) (M.1 68 G)) (i + 1) = (anyB (gCut (mL M G) (M.1 68 G)) i || gCut (mL M G) (M.1 68 G) i) := rfl
    rw [e1, e2] at ih
    generalize anyB (gLack (mL M G)) i = x at ih ⊢
    generalize anyB (gCut (mL M G) (M.1 68 G)) i = y at ih ⊢
    have second : ∀ x2 : Int32, x2 = zz (x || gLack (mL M G) i) → sm_X L xs (d + 1) 223 8 (sm_code 223 8) [(0, .ref 65), (1, .int (nI G)), (3, .int (zz y)), (4, .int (nI i))] [.int x2] (wm (sh0 ++ dy) M) Q := by
      intro x2 hx2
      subst hx2
      cases y with
      | true =>
        refine x_opp rfl rfl ?_
        refine x_opp rfl rfl ?_
        refine a_ifT rfl rfl br_nez (by first | exact rfl | exact nt_f rfl | exact tnf rfl | exact fnt rfl | exact Int32.not_lt.mp rfl | exact Int32.not_le.mp rfl | exact Int32.not_lt.mpr rfl | exact Int32.not_le.mpr rfl) ?_
        refine x_kcg rfl ?_
        refine x_go rfl ?_
        refine x_opp rfl rfl ?_
        first | refine x_incg rfl rfl ?_ | refine x_opp rfl rfl ?_
        refine x_go rfl ?_
        refine x_lvs [(0, .ref 65), (1, .int (nI G)), (2, .int (zz (x || gLack (mL M G) i))), (3, .int 1), (4, .int (nI (i + 1)))] rfl rfl rfl ⟨rfl, rfl, rfl, rfl, rfl, trivial⟩ ?_
        exact ih
      | false =>
        by_cases q : mL M G i = M.1 68 G
        · have q1 : M.1 68 G ≤ mL M G i := by rw [q]; exact Int32.le_refl _
          have e3 : gCut (mL M G) (M.1 68 G) i = false := decide_eq_false (fun h => h q)
          rw [e3] at ih
          refine x_opp rfl rfl ?_
          refine x_opp rfl rfl ?_
          refine a_ifF rfl rfl br_nez (fnt rfl) ?_
          iterate 3 (refine x_opp rfl rfl ?_)
          refine a_callV (s_65 dy) rfl rfl rfl rfl (k_rowOf hG i7 ?_)
          refine x_opp rfl rfl ?_
          refine m_getg (s_65 dy) rfl rfl rfl ?_
          refine x_opp rfl rfl ?_
          refine a_ialdN (s_68 dy) (k := G) rfl rfl rfl (by omega) (by decide) ?_
          refine a_icT rfl rfl br_ge (by first | exact q1 | exact nt_f q1 | exact tnf q1 | exact fnt q1 | exact Int32.not_lt.mp q1 | exact Int32.not_le.mp q1 | exact Int32.not_lt.mpr q1 | exact Int32.not_le.mpr q1) ?_
          refine x_kcg rfl ?_
          refine x_go rfl ?_
          refine x_opp rfl rfl ?_
          first | refine x_incg rfl rfl ?_ | refine x_opp rfl rfl ?_
          refine x_go rfl ?_
          refine x_lvs [(0, .ref 65), (1, .int (nI G)), (2, .int (zz (x || gLack (mL M G) i))), (3, .int 0), (4, .int (nI (i + 1)))] rfl rfl rfl ⟨rfl, rfl, rfl, rfl, rfl, trivial⟩ ?_
          exact ih
        · have q1 : ¬ M.1 68 G ≤ mL M G i := fun h => q (Int32.le_antisymm (hk.2.2 i i7).2 h)
          have e3 : gCut (mL M G) (M.1 68 G) i = true := decide_eq_true q
          rw [e3] at ih
          refine x_opp rfl rfl ?_
          refine x_opp rfl rfl ?_
          refine a_ifF rfl rfl br_nez (fnt rfl) ?_
          iterate 3 (refine x_opp rfl rfl ?_)
          refine a_callV (s_65 dy) rfl rfl rfl rfl (k_rowOf hG i7 ?_)
          refine x_opp rfl rfl ?_
          refine m_getg (s_65 dy) rfl rfl rfl ?_
          refine x_opp rfl rfl ?_
          refine a_ialdN (s_68 dy) (k := G) rfl rfl rfl (by omega) (by decide) ?_
          refine a_icF rfl rfl br_ge (by first | exact q1 | exact nt_f q1 | exact tnf q1 | exact fnt q1 | exact Int32.not_lt.mp q1 | exact Int32.not_le.mp q1 | exact Int32.not_lt.mpr q1 | exact Int32.not_le.mpr q1) ?_
          refine x_kcg rfl ?_
          refine x_go rfl ?_
          refine x_opp rfl rfl ?_
          first | refine x_incg rfl rfl ?_ | refine x_opp rfl rfl ?_
          refine x_go rfl ?_
          refine x_lvs [(0, .ref 65), (1, .int (nI G)), (2, .int (zz (x || gLack (mL M G) i))), (3, .int 1), (4, .int (nI (i + 1)))] rfl rfl rfl ⟨rfl, rfl, rfl, rfl, rfl, trivial⟩ ?_
          exact ih
    cases x with
    | true =>
      have fin := second 1 rfl
      refine x_opp rfl rfl ?_
      refine x_opp rfl rfl ?_
      refine m_getg (s_65 dy) rfl rfl rfl ?_
      refine x_opp rfl rfl ?_
      refine a_ialdN (s_67 dy) (k := G) rfl rfl rfl (by omega) (by decide) ?_
      rw [hH]
      refine a_icF rfl rfl br_ge (by first | exact g | exact nt_f g | exact tnf g | exact fnt g | exact Int32.not_lt.mp g | exact Int32.not_le.mp g | exact Int32.not_lt.mpr g | exact Int32.not_le.mpr g) ?_
      refine x_opp rfl rfl ?_
      refine a_ifT rfl rfl br_nez (by first | exact rfl | exact nt_f rfl | exact tnf rfl | exact fnt rfl | exact Int32.not_lt.mp rfl | exact Int32.not_le.mp rfl | exact Int32.not_lt.mpr rfl | exact Int32.not_le.mpr rfl) ?_
      refine x_kcg rfl ?_
      refine x_go rfl ?_
      refine x_lvs [(0, .ref 65), (1, .int (nI G)), (3, .int (zz y)), (4, .int (nI i))] rfl rfl rfl ⟨rfl, rfl, rfl, rfl, trivial⟩ ?_
      exact fin
    | false =>
      by_cases q : 0 ≤ mL M G i
      · have fin := second 0 (by rw [show gLack (mL M G) i = false from decide_eq_false (fun h => h q)]; rfl)
        refine x_opp rfl rfl ?_
        refine x_opp rfl rfl ?_
        refine m_getg (s_65 dy) rfl rfl rfl ?_
        refine x_opp rfl rfl ?_
        refine a_ialdN (s_67 dy) (k := G) rfl rfl rfl (by omega) (by decide) ?_
        rw [hH]
        refine a_icF rfl rfl br_ge (by first | exact g | exact nt_f g | exact tnf g | exact fnt g | exact Int32.not_lt.mp g | exact Int32.not_le.mp g | exact Int32.not_lt.mpr g | exact Int32.not_le.mpr g) ?_
        refine x_opp rfl rfl ?_
        refine a_ifF rfl rfl br_nez (fnt rfl) ?_
        iterate 3 (refine x_opp rfl rfl ?_)
        refine a_callV (s_65 dy) rfl rfl rfl rfl (k_rowOf hG i7 ?_)
        refine a_ifT rfl rfl br_ge (by first | exact q | exact nt_f q | exact tnf q | exact fnt q | exact Int32.not_lt.mp q | exact Int32.not_le.mp q | exact Int32.not_lt.mpr q | exact Int32.not_le.mpr q) ?_
        refine x_kcg rfl ?_
        refine x_go rfl ?_
        refine x_lvs [(0, .ref 65), (1, .int (nI G)), (3, .int (zz y)), (4, .int (nI i))] rfl rfl rfl ⟨rfl, rfl, rfl, rfl, trivial⟩ ?_
        exact fin
      · have fin := second 1 (by rw [show gLack (mL M G) i = true from decide_eq_true q]; rfl)
        refine x_opp rfl rfl ?_
        refine x_opp rfl rfl ?_
        refine m_getg (s_65 dy) rfl rfl rfl ?_
        refine x_opp rfl rfl ?_
        refine a_ialdN (s_67 dy) (k := G) rfl rfl rfl (by omega) (by decide) ?_
        rw [hH]
        refine a_icF rfl rfl br_ge (by first | exact g | exact nt_f g | exact tnf g | exact fnt g | exact Int32.not_lt.mp g | exact Int32.not_le.mp g | exact Int32.not_lt.mpr g | exact Int32.not_le.mpr g) ?_
        refine x_opp rfl rfl ?_
        refine a_ifF rfl rfl br_nez (fnt rfl) ?_
        iterate 3 (refine x_opp rfl rfl ?_)
        refine a_callV (s_65 dy) rfl rfl rfl rfl (k_rowOf hG i7 ?_)
        refine a_ifF rfl rfl br_ge (by first | exact q | exact nt_f q | exact tnf q | exact fnt q | exact Int32.not_lt.mp q | exact Int32.not_le.mp q | exact Int32.not_lt.mpr q | exact Int32.not_le.mpr q) ?_
        refine x_kcg rfl ?_
        refine x_go rfl ?_
        refine x_lvs [(0, .ref 65), (1, .int (nI G)), (3, .int (zz y)), (4, .int (nI i))] rfl rfl rfl ⟨rfl, rfl, rfl, rfl, trivial⟩ ?_
        exact fin
set_option maxRecDepth 4000 in
theorem k_unfit1 (h : rG M n) (hG : G < 4) (hb : M.1 66 G = 0 ∨ (¬ M.1 66 G = 0 ∧ lkG M G = true)) (hq : Q (some (.int (-10 - nI 1))) (wm (sh0 ++ dy) (mMet M (nI 1)))) : sm_E L xs (d + 3) 223 [.ref 65, .int (nI G)] (wm (sh0 ++ dy) M) Q := by
  obtain ⟨H, W, b1, b2, b3, b4, b5, b6, gk, mk, v1, v2, a1, a2⟩ := rG_v h hG
  refine e_intro rfl rfl ?_
  rcases hb with th | ⟨th, lk⟩
  · refine x_opp rfl rfl ?_
    refine m_getg (s_65 dy) rfl rfl rfl ?_
    refine x_opp rfl rfl ?_
    refine a_baldN (s_66 dy) (k := G) rfl rfl rfl (by omega) (by decide) ?_
    refine a_ifF rfl rfl br_ne (fun h => h th) ?_
    refine x_opp rfl rfl ?_
    refine x_kcg rfl ?_
    refine a_callV (s_65 dy) rfl rfl rfl rfl (k_met (vp_in_nI (n := 1) (by decide) (by decide)) ?_)
    refine a_iret rfl rfl rfl ?_
    exact hq
  · unfold lkG at lk
    rw [b4, nI_clamp (by omega)] at lk
    refine x_opp rfl rfl ?_
    refine m_getg (s_65 dy) rfl rfl rfl ?_
    refine x_opp rfl rfl ?_
    refine a_baldN (s_66 dy) (k := G) rfl rfl rfl (by omega) (by decide) ?_
    refine a_ifT rfl rfl br_ne (by first | exact th | exact nt_f th | exact tnf th | exact fnt th | exact Int32.not_lt.mp th | exact Int32.not_le.mp th | exact Int32.not_lt.mpr th | exact Int32.not_le.mpr th) ?_
    refine x_kcg rfl ?_
    refine x_opp rfl rfl ?_
    refine x_kcg rfl ?_
    refine x_opp rfl rfl ?_
    refine x_kcg rfl ?_
    refine x_opp rfl rfl ?_
    refine x_go rfl ?_
    refine x_lvs [(0, .ref 65), (1, .int (nI G)), (2, .int 0), (3, .int 0), (4, .int (nI 0))] rfl rfl rfl ⟨rfl, rfl, rfl, rfl, rfl, trivial⟩ ?_
    refine l_unfit (d := d + 1) hG mk b4 b1 ?_
    rw [lk]
    refine x_opp rfl rfl ?_
    refine a_ifF rfl rfl br_eqz (tnf rfl) ?_
    refine x_opp rfl rfl ?_
    refine x_kcg rfl ?_
    refine a_callV (s_65 dy) rfl rfl rfl rfl (k_met (vp_in_nI (n := 1) (by decide) (by decide)) ?_)
    refine x_go rfl ?_
    refine a_iret rfl rfl rfl ?_
    exact hq
set_option maxRecDepth 4000 in
theorem k_unfit2 {b : Bool} (h : rG M n) (hG : G < 4) (th : ¬ M.1 66 G = 0) (lk : lkG M G = false) (hb : ctG M G = b) (hq : Q (some (.int (if b = true then -2 else 0))) (wm (sh0 ++ dy) M)) : sm_E L xs (d + 3) 223 [.ref 65, .int (nI G)] (wm (sh0 ++ dy) M) Q := by
  obtain ⟨H, W, b1, b2, b3, b4, b5, b6, gk, mk, v1, v2, a1, a2⟩ := rG_v h hG
  refine e_intro rfl rfl ?_
  unfold lkG at lk
  unfold ctG at hb
  rw [b4, nI_clamp (by omega)] at lk hb
  refine x_opp rfl rfl ?_
  refine m_getg (s_65 dy) rfl rfl rfl ?_
  refine x_opp rfl rfl ?_
  refine a_baldN (s_66 dy) (k := G) rfl rfl rfl (by omega) (by decide) ?_
  refine a_ifT rfl rfl br_ne (by first | exact th | exact nt_f th | exact tnf th | exact fnt th | exact Int32.not_lt.mp th | exact Int32.not_le.mp th | exact Int32.not_lt.mpr th | exact Int32.not_le.mpr th) ?_
  refine x_kcg rfl ?_
  refine x_opp rfl rfl ?_
  refine x_kcg rfl ?_
  refine x_opp rfl rfl ?_
  refine x_kcg rfl ?_
  refine x_opp rfl rfl ?_
  refine x_go rfl ?_
  refine x_lvs [(0, .ref 65), (1, .int (nI G)), (2, .int 0), (3, .int 0), (4, .int (nI 0))] rfl rfl rfl ⟨rfl, rfl, rfl, rfl, rfl, trivial⟩ ?_
  refine l_unfit (d := d + 1) hG mk b4 b1 ?_
  rw [lk, hb]
  cases b with
  | true =>
    refine x_opp rfl rfl ?_
    refine a_ifT rfl rfl br_eqz (by first | exact rfl | exact nt_f rfl | exact tnf rfl | exact fnt rfl | exact Int32.not_lt.mp rfl | exact Int32.not_le.mp rfl | exact Int32.not_lt.mpr rfl | exact Int32.not_le.mpr rfl) ?_
    refine x_opp rfl rfl ?_
    refine a_ifF rfl rfl br_eqz (tnf rfl) ?_
    refine x_kcg rfl ?_
    refine x_go rfl ?_
    refine a_iret rfl rfl rfl ?_
    exact hq
  | false =>
    refine x_opp rfl rfl ?_
    refine a_ifT rfl rfl br_eqz (by first | exact rfl | exact nt_f rfl | exact tnf rfl | exact fnt rfl | exact Int32.not_lt.mp rfl | exact Int32.not_le.mp rfl | exact Int32.not_lt.mpr rfl | exact Int32.not_le.mpr rfl) ?_
    refine x_opp rfl rfl ?_
    refine a_ifT rfl rfl br_eqz (by first | exact rfl | exact nt_f rfl | exact tnf rfl | exact fnt rfl | exact Int32.not_lt.mp rfl | exact Int32.not_le.mp rfl | exact Int32.not_lt.mpr rfl | exact Int32.not_le.mpr rfl) ?_
    refine x_kcg rfl ?_
    refine x_go rfl ?_
    refine a_iret rfl rfl rfl ?_
    exact hq
end TR
