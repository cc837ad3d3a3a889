/-! pairs: judging a grid -/
/-- white squares in so many entries (any, if o is negative) -/
def jC (M : mm_T) (G : Nat) (o : Int32) : Nat := cnt (fun s => wS (M.1 67 G) (mL M G) (mC M G) s && (decide (o < 0) || decide (nI (lsum (eCov s) (gE M G)) = o))) 49
def jv (M : mm_T) (G w : Nat) : Int32 := if w = 0 then nI (gSN (M.1 67 G).toNatClampNeg (mL M G)) else if w = 1 then nI (jC M G (-1)) else if w = 2 then nI (jC M G 1) else if w = 3 then nI (jC M G 0) else if w = 4 then nI (uAll (wS (M.1 67 G) (mL M G) (mC M G)) 49).2 else if w = 5 then nI (mSh (gE M G)) else if w = 6 then zz (!(any2 (gHm (M.1 67 G) (M.1 68 G) (mL M G) (mC M G)) (M.1 68 G).toNatClampNeg (M.1 67 G).toNatClampNeg)) else if w = 7 then nI (gLN (M.1 67 G).toNatClampNeg (mL M G) (mC M G)) else if w = 9 then M.1 67 G else M.1 68 G
theorem jC_rel {M M' : mm_T} (h : rel M M') (G : Nat) (o : Int32) : jC M' G o = jC M G o := by
  unfold jC
  rw [rel_mL h, rel_mC h, gE_rel h, h.1 67 _ (by unfold irr; omega)]
theorem jv_rel {M M' : mm_T} (h : rel M M') (G w : Nat) : jv M' G w = jv M G w := by
  unfold jv
  rw [rel_mL h, rel_mC h, gE_rel h, h.1 67 _ (by unfold irr; omega), h.1 68 _ (by unfold irr; omega), jC_rel h, jC_rel h, jC_rel h]
section JU
variable {L : Nat} {xs : Nat → Int32} {t d : Nat} {dy : List sh_T} {M : mm_T} {Q : Option Value → sm_W → Prop} {n G : Nat}
theorem gHt_ext {h w : Int32} {ln ln' cs cs' : Nat → Int32} {H Wd : Nat} (v : vOK h ln H Wd) (e : vEq ln ln' cs cs' H) : gHt h w ln cs = gHt h w ln' cs' := by
  funext i j
  unfold gHt
  rw [vEq_Wh v e, vEq_Wh v e]
/-- what both views of a grid say -/
theorem rG_views (h : rG M n) (hG : G < 4) : ∃ H W, H ≤ 7 ∧ W ≤ 7 ∧ M.1 67 G = nI H ∧ M.1 68 G = nI W ∧ M.1 (45 + 5 * G) 5 = nI H ∧ M.1 (45 + 5 * G) 6 = nI W ∧ gOK M (45 + 5 * G) (47 + 5 * G) ∧ mgOK M G ∧ gE M G = ents (M.1 67 G) (mL M G) (mC M G) W H ∧ gSN H (M.1 (47 + 5 * G)) = gSN H (mL M G) ∧ gWN H (M.1 (47 + 5 * G)) (M.1 (46 + 5 * G)) = jC M G (-1) ∧ (∀ o : Int32, ¬ o < 0 → gEN H (M.1 (45 + 5 * G) 5) (M.1 (47 + 5 * G)) (M.1 (46 + 5 * G)) o = jC M G o) ∧ wS (M.1 (45 + 5 * G) 5) (M.1 (47 + 5 * G)) (M.1 (46 + 5 * G)) = wS (M.1 67 G) (mL M G) (mC M G) ∧ any2 (gHt (M.1 (45 + 5 * G) 5) (M.1 (45 + 5 * G) 6) (M.1 (47 + 5 * G)) (M.1 (46 + 5 * G))) W H = any2 (gHm (M.1 67 G) (M.1 68 G) (mL M G) (mC M G)) W H ∧ gLN H (M.1 (47 + 5 * G)) (M.1 (46 + 5 * G)) = gLN H (mL M G) (mC M G) := by
  obtain ⟨H, W, b1, b2, b3, b4, b5, b6, gk, mk, v1, v2, a1, a2⟩ := rG_v h hG
  have e : gE M G = ents (M.1 67 G) (mL M G) (mC M G) W H := by
    unfold gE
    rw [b4, b6, nI_clamp (by omega), nI_clamp (by omega)]
  have e5 : M.1 (45 + 5 * G) 5 = M.1 67 G := b3.trans b4.symm
  have e6 : M.1 (45 + 5 * G) 6 = M.1 68 G := b5.trans b6.symm
  have v0 : vOK (M.1 67 G) (M.1 (47 + 5 * G)) H W := ⟨b4, b1, b2, fun i hi => by rw [v2.1 i hi]; exact v1.2.2.2 i hi⟩
  refine ⟨H, W, b1, b2, b4, b6, b3, b5, gk, mk, e, vEq_SN b1 v2, ?_, fun o ho => ?_, ?_, ?_, vEq_LN b1 v2⟩
  · rw [vEq_WN b1 v2, v_WN v1 (gE M G)]
    rfl
  · rw [e5, v_EN v0 ho, vEq_wS v0 v2, vEq_ents v0 v2, ← e]
    rfl
  · rw [e5, vEq_wS v0 v2]
  · rw [e5, e6, gHt_ext v0 v2, v_half b4 b6]
set_option maxRecDepth 4000 in
theorem l_jD {w : Nat} (hw : w ≤ 10) (h8 : w ≠ 8) (h : rG M n) (hG4 : G < 4) (ht : tabIs M 8 9 10 11 12 (gE M G)) (hq : ∀ M', rel M M' → Q (some (.int (jv M G w))) (wm (sh0 ++ dy) M')) : sm_X L xs (d + 5) 112 6 (sm_code 112 6) [(0, .ref 0), (1, .int (nI G)), (2, .int (nI w))] [] (wm (sh0 ++ dy) M) Q := by
  have hgr := h.2.1 G hG4
  have gs := gsh_at dy G hG4
  obtain ⟨sg, -⟩ := gsh_at dy G hG4
  obtain ⟨H, W, b1, b2, b4, b6, b3, b5, gk, mk, e, w0, w1, w2, w3, w4, w5⟩ := rG_views h hG4
  obtain ⟨o42, oks, -⟩ := gE_ok h hG4
  have c1 : (M.1 67 G).toNatClampNeg = H := by rw [b4, nI_clamp (by omega)]
  have c2 : (M.1 68 G).toNatClampNeg = W := by rw [b6, nI_clamp (by omega)]
  have hq0 := hq M (rel_rfl M)
  rcases (show w = 0 ∨ w = 1 ∨ w = 2 ∨ w = 3 ∨ w = 4 ∨ w = 5 ∨ w = 6 ∨ w = 7 ∨ w = 9 ∨ w = 10 by omega) with rfl | rfl | rfl | rfl | rfl | rfl | rfl | rfl | rfl | rfl
  · have ej : jv M G 0 = nI (gSN H (mL M G)) := by unfold jv; rw [if_pos rfl, c1]
    rw [ej] at hq0
    refine x_opp rfl rfl ?_
    refine m_getg (s_0 dy) rfl rfl rfl ?_
    refine x_opp rfl rfl ?_
    refine a_gr hG4 rfl rfl hgr ?_
    refine x_opp rfl rfl ?_
    refine x_opp rfl rfl ?_
    refine x_tabIn (by decide) rfl ?_
    refine x_opp rfl rfl ?_
    refine a_callV sg rfl rfl rfl rfl (c_squares gs gk b3 b1 ?_)
    rw [w0]
    refine a_iret rfl rfl rfl ?_
    exact hq0
  · have ej : jv M G 1 = nI (jC M G (-1)) := rfl
    rw [ej] at hq0
    refine x_opp rfl rfl ?_
    refine m_getg (s_0 dy) rfl rfl rfl ?_
    refine x_opp rfl rfl ?_
    refine a_gr hG4 rfl rfl hgr ?_
    refine x_opp rfl rfl ?_
    refine x_opp rfl rfl ?_
    refine x_tabIn (by decide) rfl ?_
    refine x_opp rfl rfl ?_
    refine a_callV sg rfl rfl rfl rfl (c_whites gs gk b3 b1 ?_)
    rw [w1]
    refine a_iret rfl rfl rfl ?_
    exact hq0
  · have ej : jv M G 2 = nI (jC M G 1) := rfl
    rw [ej] at hq0
    refine x_opp rfl rfl ?_
    refine m_getg (s_0 dy) rfl rfl rfl ?_
    refine x_opp rfl rfl ?_
    refine a_gr hG4 rfl rfl hgr ?_
    refine x_opp rfl rfl ?_
    refine x_opp rfl rfl ?_
    refine x_tabIn (by decide) rfl ?_
    refine x_opp rfl rfl ?_
    refine x_kcg rfl ?_
    refine a_callV sg rfl rfl rfl rfl (c_whitesInEntries gs gk b3 b1 ?_)
    rw [w2 1 (by decide)]
    refine a_iret rfl rfl rfl ?_
    exact hq0
  · have ej : jv M G 3 = nI (jC M G 0) := rfl
    rw [ej] at hq0
    refine x_opp rfl rfl ?_
    refine m_getg (s_0 dy) rfl rfl rfl ?_
    refine x_opp rfl rfl ?_
    refine a_gr hG4 rfl rfl hgr ?_
    refine x_opp rfl rfl ?_
    refine x_opp rfl rfl ?_
    refine x_tabIn (by decide) rfl ?_
    refine x_opp rfl rfl ?_
    refine x_kcg rfl ?_
    refine a_callV sg rfl rfl rfl rfl (c_whitesInEntries gs gk b3 b1 ?_)
    rw [w2 0 (by decide)]
    refine a_iret rfl rfl rfl ?_
    exact hq0
  · have ej : jv M G 4 = nI (uAll (wS (M.1 67 G) (mL M G) (mC M G)) 49).2 := rfl
    rw [ej] at hq
    refine x_opp rfl rfl ?_
    refine m_getg (s_0 dy) rfl rfl rfl ?_
    refine x_opp rfl rfl ?_
    refine a_gr hG4 rfl rfl hgr ?_
    refine x_opp rfl rfl ?_
    refine x_opp rfl rfl ?_
    refine x_tabIn (by decide) rfl ?_
    refine x_opp rfl rfl ?_
    refine a_callV sg rfl rfl rfl rfl (c_islands gs gk b3 b1 (fun M' f' => ?_))
    rw [w3]
    refine a_iret rfl rfl rfl ?_
    exact hq M' (rel_b hG4 f')
  · have ej : jv M G 5 = nI (mSh (gE M G)) := rfl
    rw [ej] at hq0
    refine x_opp rfl rfl ?_
    refine m_getg (s_0 dy) rfl rfl rfl ?_
    refine x_opp rfl rfl ?_
    refine a_gr hG4 rfl rfl hgr ?_
    refine x_opp rfl rfl ?_
    refine x_opp rfl rfl ?_
    refine x_tabIn (by decide) rfl ?_
    refine x_opp rfl rfl ?_
    refine m_getg (s_0 dy) rfl rfl rfl ?_
    refine a_callV (s_8 dy) rfl rfl rfl rfl (c_shortest (tsh_8 dy) ht o42 oks ?_)
    refine a_iret rfl rfl rfl ?_
    exact hq0
  · have ej : jv M G 6 = zz (!(any2 (gHm (M.1 67 G) (M.1 68 G) (mL M G) (mC M G)) W H)) := by
      rw [← c2, ← c1]; rfl
    rw [ej] at hq0
    cases hb : any2 (gHm (M.1 67 G) (M.1 68 G) (mL M G) (mC M G)) W H with
    | true =>
      rw [hb] at hq0
      refine x_opp rfl rfl ?_
      refine m_getg (s_0 dy) rfl rfl rfl ?_
      refine x_opp rfl rfl ?_
      refine a_gr hG4 rfl rfl hgr ?_
      refine x_opp rfl rfl ?_
      refine x_opp rfl rfl ?_
      refine x_tabIn (by decide) rfl ?_
      refine x_opp rfl rfl ?_
      refine a_callV sg rfl rfl rfl rfl (c_halfTurn gs gk b3 b1 b5 b2 ?_)
      rw [w4, hb]
      refine a_ifT rfl rfl br_eqz (by first | exact rfl | exact nt_f rfl | exact tnf rfl | exact fnt rfl | exact Int32.not_lt.mp rfl | exact Int32.not_le.mp rfl | exact Int32.not_lt.mpr rfl | exact Int32.not_le.mpr rfl) ?_
      refine x_kcg rfl ?_
      refine x_go rfl ?_
      refine a_iret rfl rfl rfl ?_
      exact hq0
    | false =>
      rw [hb] at hq0
      refine x_opp rfl rfl ?_
      refine m_getg (s_0 dy) rfl rfl rfl ?_
      refine x_opp rfl rfl ?_
      refine a_gr hG4 rfl rfl hgr ?_
      refine x_opp rfl rfl ?_
      refine x_opp rfl rfl ?_
      refine x_tabIn (by decide) rfl ?_
      refine x_opp rfl rfl ?_
      refine a_callV sg rfl rfl rfl rfl (c_halfTurn gs gk b3 b1 b5 b2 ?_)
      rw [w4, hb]
      refine a_ifF rfl rfl br_eqz (tnf rfl) ?_
      refine x_kcg rfl ?_
      refine x_go rfl ?_
      refine a_iret rfl rfl rfl ?_
      exact hq0
  · have ej : jv M G 7 = nI (gLN H (mL M G) (mC M G)) := by rw [← c1]; rfl
    rw [ej] at hq0
    refine x_opp rfl rfl ?_
    refine m_getg (s_0 dy) rfl rfl rfl ?_
    refine x_opp rfl rfl ?_
    refine a_gr hG4 rfl rfl hgr ?_
    refine x_opp rfl rfl ?_
    refine x_opp rfl rfl ?_
    refine x_tabIn (by decide) rfl ?_
    refine x_opp rfl rfl ?_
    refine a_callV sg rfl rfl rfl rfl (c_letters gs gk b3 b1 ?_)
    rw [w5]
    refine a_iret rfl rfl rfl ?_
    exact hq0
  · have ej : jv M G 9 = M.1 67 G := rfl
    rw [ej, b4] at hq0
    refine x_opp rfl rfl ?_
    refine m_getg (s_0 dy) rfl rfl rfl ?_
    refine x_opp rfl rfl ?_
    refine a_gr hG4 rfl rfl hgr ?_
    refine x_opp rfl rfl ?_
    refine x_opp rfl rfl ?_
    refine x_tabIn (by decide) rfl ?_
    refine x_opp rfl rfl ?_
    refine m_getg sg rfl rfl rfl ?_
    rw [b3]
    refine a_iret rfl rfl rfl ?_
    exact hq0
  · have ej : jv M G 10 = M.1 68 G := rfl
    rw [ej, b6] at hq0
    refine x_opp rfl rfl ?_
    refine m_getg (s_0 dy) rfl rfl rfl ?_
    refine x_opp rfl rfl ?_
    refine a_gr hG4 rfl rfl hgr ?_
    refine x_opp rfl rfl ?_
    refine x_opp rfl rfl ?_
    refine x_tabOut (by decide) ?_
    refine x_opp rfl rfl ?_
    refine m_getg sg rfl rfl rfl ?_
    rw [b5]
    refine a_iret rfl rfl rfl ?_
    exact hq0
set_option maxRecDepth 4000 in
theorem l_jM {w : Nat} (hw : w ≤ 10) (h8 : w ≠ 8) (h : rG M n) (hG : G < 4) (ht : mTab M (gE M G)) (hq : ∀ M', rel M M' → Q (some (.int (jv M G w))) (wm (sh0 ++ dy) M')) : sm_X L xs (d + 4) 209 14 (sm_code 209 14) [(0, .ref 65), (1, .int (nI G)), (2, .int (nI w)), (3, .int (nI (gSN (M.1 67 G).toNatClampNeg (mL M G)))), (4, .int (nI (gLN (M.1 67 G).toNatClampNeg (mL M G) (mC M G))))] [] (wm (sh0 ++ dy) M) Q := by
  obtain ⟨H, W, b1, b2, b4, b6, b3, b5, gk, mk, e, w0, w1, w2, w3, w4, w5⟩ := rG_views h hG
  obtain ⟨o42, oks, -⟩ := gE_ok h hG
  have c1 : (M.1 67 G).toNatClampNeg = H := by rw [b4, nI_clamp (by omega)]
  have c2 : (M.1 68 G).toNatClampNeg = W := by rw [b6, nI_clamp (by omega)]
  have hq0 := hq M (rel_rfl M)
  rcases (show w = 0 ∨ w = 1 ∨ w = 2 ∨ w = 3 ∨ w = 4 ∨ w = 5 ∨ w = 6 ∨ w = 7 ∨ w = 9 ∨ w = 10 by omega) with rfl | rfl | rfl | rfl | rfl | rfl | rfl | rfl | rfl | rfl
  · refine x_opp rfl rfl ?_
    refine x_tabIn (by decide) rfl ?_
    refine x_opp rfl rfl ?_
    refine a_iret rfl rfl rfl ?_
    exact hq0
  · refine x_opp rfl rfl ?_
    refine x_tabIn (by decide) rfl ?_
    refine x_opp rfl rfl ?_
    refine x_opp rfl rfl ?_
    refine x_kcg rfl ?_
    refine a_callV (s_65 dy) rfl rfl rfl rfl (k_whites hG mk h.1 ht (by omega) oks ?_)
    refine a_iret rfl rfl rfl ?_
    exact hq0
  · refine x_opp rfl rfl ?_
    refine x_tabIn (by decide) rfl ?_
    refine x_opp rfl rfl ?_
    refine x_opp rfl rfl ?_
    refine x_kcg rfl ?_
    refine a_callV (s_65 dy) rfl rfl rfl rfl (k_whites hG mk h.1 ht (by omega) oks ?_)
    refine a_iret rfl rfl rfl ?_
    exact hq0
  · refine x_opp rfl rfl ?_
    refine x_tabIn (by decide) rfl ?_
    refine x_opp rfl rfl ?_
    refine x_opp rfl rfl ?_
    refine x_kcg rfl ?_
    refine a_callV (s_65 dy) rfl rfl rfl rfl (k_whites hG mk h.1 ht (by omega) oks ?_)
    refine a_iret rfl rfl rfl ?_
    exact hq0
  · refine x_opp rfl rfl ?_
    refine x_tabIn (by decide) rfl ?_
    refine x_opp rfl rfl ?_
    refine x_opp rfl rfl ?_
    refine a_callV (s_65 dy) rfl rfl rfl rfl (k_islands hG mk h.1 (fun M' f' => ?_))
    refine a_iret rfl rfl rfl ?_
    exact hq M' (rel_i f')
  · refine x_opp rfl rfl ?_
    refine x_tabIn (by decide) rfl ?_
    refine x_opp rfl rfl ?_
    refine a_callV (s_65 dy) rfl rfl rfl rfl (k_shortest ht (by omega) oks ?_)
    refine a_iret rfl rfl rfl ?_
    exact hq0
  · have ej : jv M G 6 = zz (!(any2 (gHm (M.1 67 G) (M.1 68 G) (mL M G) (mC M G)) W H)) := by
      rw [← c2, ← c1]; rfl
    rw [ej] at hq0
    cases hb : any2 (gHm (M.1 67 G) (M.1 68 G) (mL M G) (mC M G)) W H with
    | true =>
      rw [hb] at hq0
      refine x_opp rfl rfl ?_
      refine x_tabIn (by decide) rfl ?_
      refine x_opp rfl rfl ?_
      refine x_opp rfl rfl ?_
      refine a_callV (s_65 dy) rfl rfl rfl rfl (k_isTurnedLike hG mk h.1 b4 b1 b6 b2 ?_)
      rw [hb]
      refine a_ifT rfl rfl br_eqz (by first | exact rfl | exact nt_f rfl | exact tnf rfl | exact fnt rfl | exact Int32.not_lt.mp rfl | exact Int32.not_le.mp rfl | exact Int32.not_lt.mpr rfl | exact Int32.not_le.mpr rfl) ?_
      refine x_kcg rfl ?_
      refine x_go rfl ?_
      refine a_iret rfl rfl rfl ?_
      exact hq0
    | false =>
      rw [hb] at hq0
      refine x_opp rfl rfl ?_
      refine x_tabIn (by decide) rfl ?_
      refine x_opp rfl rfl ?_
      refine x_opp rfl rfl ?_
      refine a_callV (s_65 dy) rfl rfl rfl rfl (k_isTurnedLike hG mk h.1 b4 b1 b6 b2 ?_)
      rw [hb]
      refine a_ifF rfl rfl br_eqz (tnf rfl) ?_
      refine x_kcg rfl ?_
      refine x_go rfl ?_
      refine a_iret rfl rfl rfl ?_
      exact hq0
  · refine x_opp rfl rfl ?_
    refine x_tabIn (by decide) rfl ?_
    refine x_opp rfl rfl ?_
    refine a_iret rfl rfl rfl ?_
    exact hq0
  · refine x_opp rfl rfl ?_
    refine x_tabIn (by decide) rfl ?_
    refine x_opp rfl rfl ?_
    refine m_getg (s_65 dy) rfl rfl rfl ?_
    refine x_opp rfl rfl ?_
    refine a_ialdN (s_67 dy) (k := G) rfl rfl rfl (by omega) (by decide) ?_
    refine a_iret rfl rfl rfl ?_
    exact hq0
  · refine x_opp rfl rfl ?_
    refine x_tabOut (by decide) ?_
    refine x_opp rfl rfl ?_
    refine m_getg (s_65 dy) rfl rfl rfl ?_
    refine x_opp rfl rfl ?_
    refine a_ialdN (s_68 dy) (k := G) rfl rfl rfl (by omega) (by decide) ?_
    refine a_iret rfl rfl rfl ?_
    exact hq0
/-- the reference up to its switch -/
theorem l_jR {o : Int32} (h : rG M n) (hG : G < 4) (hq : sm_X L xs (d + 4) 209 14 (sm_code 209 14) [(0, .ref 65), (1, .int (nI G)), (2, .int o), (3, .int (nI (gSN (M.1 67 G).toNatClampNeg (mL M G)))), (4, .int (nI (gLN (M.1 67 G).toNatClampNeg (mL M G) (mC M G))))] [] (wm (sh0 ++ dy) M) Q) : sm_X L xs (d + 4) 209 6 (sm_code 209 6) [(0, .ref 65), (1, .int (nI G)), (2, .int o), (3, .int (nI 0)), (4, .int (nI 0)), (5, .int (nI 0))] [] (wm (sh0 ++ dy) M) Q := by
  obtain ⟨H, W, b1, b2, b4, b6, b3, b5, gk, mk, e, w0, w1, w2, w3, w4, w5⟩ := rG_views h hG
  have c1 : (M.1 67 G).toNatClampNeg = H := by rw [b4, nI_clamp (by omega)]
  rw [c1] at hq
  exact l_judge hG mk h.1 b4 b1 hq
set_option maxRecDepth 4000 in
theorem p_judge {g u : Int32} (h : rR t dy M) : pr L xs t dy M 112 209 [.int g, .int u] := by
  have hR := h; obtain ⟨s, E, P, w, n, hG, hN, hL, hS, hQ⟩ := h; have z0 : (0 : Int32) = 0 := rfl; have z1 : (0 : Int32) ≤ 0 := (by decide); have z11 : ¬ (1 : Int32) = 0 := (by decide); have z12 : ¬ (1 : Int32) ≤ 0 := (by decide); obtain ⟨M1, hM1⟩ : ∃ M1, m_setI M 1 5 0 = M1 := ⟨_, rfl⟩; have g1 : rG M1 n := hM1 ▸ rG_c hG; obtain ⟨M2, hM2⟩ : ∃ M2, m_setI M1 65 19 0 = M2 := ⟨_, rfl⟩; have g2 : rG M2 n := hM2 ▸ rG_z g1
  unfold pr; refine e_intro rfl rfl ?_
  by_cases hg : gRow 4 g = true
  · obtain ⟨G, hG4, rfl⟩ := gRow4 hg
    by_cases hu : inR u 0 10 = true
    · have u0 : ¬ u < 0 := fun h => by unfold inR at hu; rw [if_pos h] at hu; cases hu
      have u4 : u ≤ 10 := by
        unfold inR at hu
        rw [if_neg u0] at hu
        by_cases q : (10 : Int32) < u
        · rw [if_pos q] at hu; cases hu
        · exact Int32.not_lt.mp q
      obtain ⟨w', hw, rfl⟩ := nI_ofm (m := 10) u0 u4 (by decide)
      by_cases th : M1.1 66 G = 0
      · refine x_opp rfl rfl ?_
        refine m_getg (s_0 dy) rfl rfl rfl ?_
        refine a_callV (s_1 dy) rfl rfl rfl rfl (c_clear (s_1 dy) ?_)
        refine x_opp rfl rfl ?_
        refine a_callS rfl rfl rfl rfl (c_isGridNumber ?_)
        rw [hM1]
        refine a_ifF rfl rfl br_eqz (by first | exact hg | exact nt_f hg | exact tnf hg | exact fnt hg | exact Int32.not_lt.mp hg | exact Int32.not_le.mp hg | exact Int32.not_lt.mpr hg | exact Int32.not_le.mpr hg) ?_
        refine x_opp rfl rfl ?_
        refine a_ifF rfl rfl br_lt (by first | exact u0 | exact nt_f u0 | exact tnf u0 | exact fnt u0 | exact Int32.not_lt.mp u0 | exact Int32.not_le.mp u0 | exact Int32.not_lt.mpr u0 | exact Int32.not_le.mpr u0) ?_
        refine x_opp rfl rfl ?_
        refine x_kcg rfl ?_
        refine a_icT rfl rfl br_le (by first | exact u4 | exact nt_f u4 | exact tnf u4 | exact fnt u4 | exact Int32.not_lt.mp u4 | exact Int32.not_le.mp u4 | exact Int32.not_lt.mpr u4 | exact Int32.not_le.mpr u4) ?_
        refine x_opp rfl rfl ?_
        refine x_opp rfl rfl ?_
        refine a_callV (s_0 dy) rfl rfl rfl rfl (c_look0 g1 hG4 th ?_)
        refine a_ifF rfl rfl br_ne (fun h => h rfl) ?_
        refine x_opp rfl rfl ?_
        refine m_getg (s_0 dy) rfl rfl rfl ?_
        refine a_callV (s_1 dy) rfl rfl rfl rfl (c_answer (s_1 dy) ?_)
        refine a_iret rfl rfl rfl ?_
        refine ⟨_, dy, _, rfl, rfl, ?_⟩; refine e_intro rfl rfl ?_
        refine x_opp rfl rfl ?_
        refine x_kcg rfl ?_
        refine a_putJ 19 (s_65 dy) rfl rfl rfl rfl ?_
        refine x_opp rfl rfl ?_
        refine a_callS rfl rfl rfl rfl (k_isGrid ?_)
        refine a_ifF rfl rfl br_eqz (by first | exact hg | exact nt_f hg | exact tnf hg | exact fnt hg | exact Int32.not_lt.mp hg | exact Int32.not_le.mp hg | exact Int32.not_lt.mpr hg | exact Int32.not_le.mpr hg) ?_
        refine x_opp rfl rfl ?_
        refine x_kcg rfl ?_
        refine x_kcg rfl ?_
        refine a_callS rfl rfl rfl rfl (k_in ?_)
        refine a_ifT rfl rfl br_nez (by first | exact hu | exact nt_f hu | exact tnf hu | exact fnt hu | exact Int32.not_lt.mp hu | exact Int32.not_le.mp hu | exact Int32.not_lt.mpr hu | exact Int32.not_le.mpr hu) ?_
        refine x_opp rfl rfl ?_
        refine m_getg (s_65 dy) rfl rfl rfl ?_
        refine x_opp rfl rfl ?_
        refine a_baldN (s_66 dy) (k := G) rfl rfl rfl (by omega) (by decide) ?_
        refine a_ifF rfl rfl br_ne (fun h => h th) ?_
        refine x_opp rfl rfl ?_
        refine x_kcg rfl ?_
        refine a_callV (s_65 dy) rfl rfl rfl rfl (k_met (vp_in_nI (n := 1) (by decide) (by decide)) ?_)
        refine a_iret rfl rfl rfl ?_
        subst hM1
        exact ⟨rfl, _, rfl, R_fd (k := 1) (by decide) hR⟩
      · obtain ⟨o42, oks, -⟩ := gE_ok g1 hG4
        have tail : ∀ M3, rel M1 M3 → gE (m_setI M3 65 19 0) G = gE M1 G ∧ rG (m_setI M3 65 19 0) n ∧ ¬ (m_setI M3 65 19 0).1 66 G = 0 := fun M3 r3 => ⟨(gE_rel (rel_I r3 65 19 0) G).trans rfl, rG_z (rG_rel r3 g1), by rw [mI_ne _ _ _ (by decide), r3.1 66 G (by unfold irr; omega)]; exact th⟩
        by_cases h8 : w' = 8
        · subst h8
          by_cases hz : (gE M1 G).length = 0
          · refine x_opp rfl rfl ?_
            refine m_getg (s_0 dy) rfl rfl rfl ?_
            refine a_callV (s_1 dy) rfl rfl rfl rfl (c_clear (s_1 dy) ?_)
            refine x_opp rfl rfl ?_
            refine a_callS rfl rfl rfl rfl (c_isGridNumber ?_)
            rw [hM1]
            refine a_ifF rfl rfl br_eqz (by first | exact hg | exact nt_f hg | exact tnf hg | exact fnt hg | exact Int32.not_lt.mp hg | exact Int32.not_le.mp hg | exact Int32.not_lt.mpr hg | exact Int32.not_le.mpr hg) ?_
            refine x_opp rfl rfl ?_
            refine a_ifF rfl rfl br_lt (by first | exact u0 | exact nt_f u0 | exact tnf u0 | exact fnt u0 | exact Int32.not_lt.mp u0 | exact Int32.not_le.mp u0 | exact Int32.not_lt.mpr u0 | exact Int32.not_le.mpr u0) ?_
            refine x_opp rfl rfl ?_
            refine x_kcg rfl ?_
            refine a_icT rfl rfl br_le (by first | exact u4 | exact nt_f u4 | exact tnf u4 | exact fnt u4 | exact Int32.not_lt.mp u4 | exact Int32.not_le.mp u4 | exact Int32.not_lt.mpr u4 | exact Int32.not_le.mpr u4) ?_
            refine x_opp rfl rfl ?_
            refine x_opp rfl rfl ?_
            refine a_callV (s_0 dy) rfl rfl rfl rfl (c_look1 g1 hG4 th (fun M3 t3 r3 => ?_))
            have g3' := rG_rel r3 g1
            have hgr := g3'.2.1 G hG4
            have z3 : M3.1 8 4 = 0 := by rw [t3.1, hz]; rfl
            refine a_ifT rfl rfl br_ne (by decide) ?_
            refine x_opp rfl rfl ?_
            refine m_getg (s_0 dy) rfl rfl rfl ?_
            refine x_opp rfl rfl ?_
            refine a_gr hG4 rfl rfl hgr ?_
            refine x_opp rfl rfl ?_
            refine x_opp rfl rfl ?_
            refine x_tabIn (by decide) rfl ?_
            refine x_opp rfl rfl ?_
            refine m_getg (s_0 dy) rfl rfl rfl ?_
            refine m_getg (s_8 dy) rfl rfl rfl ?_
            rw [z3]
            refine a_ifF rfl rfl br_ne (fun h => h rfl) ?_
            refine x_opp rfl rfl ?_
            refine m_getg (s_0 dy) rfl rfl rfl ?_
            refine x_kcg rfl ?_
            refine a_callV (s_1 dy) rfl rfl rfl rfl (c_find (s_1 dy) (s_3 dy) (by decide) (vp_in_nI (n := 5) (by decide) (by decide)) ?_)
            refine x_go rfl ?_
            refine a_iret rfl rfl rfl ?_
            refine ⟨_, dy, _, rfl, rfl, ?_⟩; refine e_intro rfl rfl ?_
            have r3' : rel (nFind M1 1 3 (nI 5)) (nFind M3 1 3 (nI 5)) := rel_fd r3 5 (by decide)
            have g3 : rG (m_setI (nFind M3 1 3 (nI 5)) 65 19 0) n := rG_z (rG_rel r3' (rG_f g1))
            have e4 : gE (m_setI (nFind M3 1 3 5) 65 19 0) G = gE M1 G := (gE_rel (rel_I r3' 65 19 0) G).trans rfl
            have th3 : ¬ (m_setI (nFind M3 1 3 (nI 5)) 65 19 0).1 66 G = 0 := by rw [mI_ne _ _ _ (by decide), r3'.1 66 G (by unfold irr; omega)]; exact th
            refine x_opp rfl rfl ?_
            refine x_kcg rfl ?_
            refine a_putJ 19 (s_65 dy) rfl rfl rfl rfl ?_
            refine x_opp rfl rfl ?_
            refine a_callS rfl rfl rfl rfl (k_isGrid ?_)
            refine a_ifF rfl rfl br_eqz (by first | exact hg | exact nt_f hg | exact tnf hg | exact fnt hg | exact Int32.not_lt.mp hg | exact Int32.not_le.mp hg | exact Int32.not_lt.mpr hg | exact Int32.not_le.mpr hg) ?_
            refine x_opp rfl rfl ?_
            refine x_kcg rfl ?_
            refine x_kcg rfl ?_
            refine a_callS rfl rfl rfl rfl (k_in ?_)
            refine a_ifT rfl rfl br_nez (by first | exact hu | exact nt_f hu | exact tnf hu | exact fnt hu | exact Int32.not_lt.mp hu | exact Int32.not_le.mp hu | exact Int32.not_lt.mpr hu | exact Int32.not_le.mpr hu) ?_
            refine x_opp rfl rfl ?_
            refine m_getg (s_65 dy) rfl rfl rfl ?_
            refine x_opp rfl rfl ?_
            refine a_baldN (s_66 dy) (k := G) rfl rfl rfl (by omega) (by decide) ?_
            refine a_ifT rfl rfl br_ne (by first | exact th3 | exact nt_f th3 | exact tnf th3 | exact fnt th3 | exact Int32.not_lt.mp th3 | exact Int32.not_le.mp th3 | exact Int32.not_lt.mpr th3 | exact Int32.not_le.mpr th3) ?_
            refine x_opp rfl rfl ?_
            refine x_opp rfl rfl ?_
            refine a_callV (s_65 dy) rfl rfl rfl rfl (k_ents g3 hG4 (fun M4 t4 r4 => ?_))
            refine x_kcg rfl ?_
            refine x_opp rfl rfl ?_
            refine x_kcg rfl ?_
            refine x_opp rfl rfl ?_
            refine x_kcg rfl ?_
            refine x_opp rfl rfl ?_
            refine x_go rfl ?_
            rw [e4] at t4
            have z4 : M4.1 65 32 = 0 := by rw [t4.1, hz]; rfl
            refine x_lvs [(0, .ref 65), (1, .int (nI G)), (2, .int (nI 8)), (3, .int (nI 0)), (4, .int (nI 0)), (5, .int (nI 0))] rfl rfl rfl ⟨rfl, rfl, rfl, rfl, rfl, rfl, trivial⟩ ?_
            refine l_jR (rG_rel r4 g3) hG4 ?_
            refine x_opp rfl rfl ?_
            refine x_tabIn (by decide) rfl ?_
            refine x_opp rfl rfl ?_
            refine m_getg (s_65 dy) rfl rfl rfl ?_
            rw [z4]
            refine a_ifF rfl rfl br_ne (fun h => h rfl) ?_
            refine x_opp rfl rfl ?_
            refine x_kcg rfl ?_
            refine a_callV (s_65 dy) rfl rfl rfl rfl (k_met (vp_in_nI (n := 5) (by decide) (by decide)) ?_)
            refine x_go rfl ?_
            refine a_iret rfl rfl rfl ?_
            subst hM1
            exact ⟨rfl, _, rfl, R_2f (k := 5) (by decide) hR r3 r4⟩
          · have hz0 : ¬ nI (gE M1 G).length = 0 := nI_ne0 (by omega) (by omega)
            have gs := gsh_at dy G hG4
            obtain ⟨sg, -⟩ := gsh_at dy G hG4
            refine x_opp rfl rfl ?_
            refine m_getg (s_0 dy) rfl rfl rfl ?_
            refine a_callV (s_1 dy) rfl rfl rfl rfl (c_clear (s_1 dy) ?_)
            refine x_opp rfl rfl ?_
            refine a_callS rfl rfl rfl rfl (c_isGridNumber ?_)
            rw [hM1]
            refine a_ifF rfl rfl br_eqz (by first | exact hg | exact nt_f hg | exact tnf hg | exact fnt hg | exact Int32.not_lt.mp hg | exact Int32.not_le.mp hg | exact Int32.not_lt.mpr hg | exact Int32.not_le.mpr hg) ?_
            refine x_opp rfl rfl ?_
            refine a_ifF rfl rfl br_lt (by first | exact u0 | exact nt_f u0 | exact tnf u0 | exact fnt u0 | exact Int32.not_lt.mp u0 | exact Int32.not_le.mp u0 | exact Int32.not_lt.mpr u0 | exact Int32.not_le.mpr u0) ?_
            refine x_opp rfl rfl ?_
            refine x_kcg rfl ?_
            refine a_icT rfl rfl br_le (by first | exact u4 | exact nt_f u4 | exact tnf u4 | exact fnt u4 | exact Int32.not_lt.mp u4 | exact Int32.not_le.mp u4 | exact Int32.not_lt.mpr u4 | exact Int32.not_le.mpr u4) ?_
            refine x_opp rfl rfl ?_
            refine x_opp rfl rfl ?_
            refine a_callV (s_0 dy) rfl rfl rfl rfl (c_look1 g1 hG4 th (fun M3 t3 r3 => ?_))
            have g3' := rG_rel r3 g1
            have hgr := g3'.2.1 G hG4
            obtain ⟨H, W, b1, b2, b4, b6, b3, b5, gk, mk, e, w0, w1, w2, w3, w4, w5⟩ := rG_views g3' hG4
            refine a_ifT rfl rfl br_ne (by decide) ?_
            refine x_opp rfl rfl ?_
            refine m_getg (s_0 dy) rfl rfl rfl ?_
            refine x_opp rfl rfl ?_
            refine a_gr hG4 rfl rfl hgr ?_
            refine x_opp rfl rfl ?_
            refine x_opp rfl rfl ?_
            refine x_tabIn (by decide) rfl ?_
            refine x_opp rfl rfl ?_
            refine m_getg (s_0 dy) rfl rfl rfl ?_
            refine m_getg (s_8 dy) rfl rfl rfl ?_
            rw [t3.1]
            refine a_ifT rfl rfl br_ne (by first | exact hz0 | exact nt_f hz0 | exact tnf hz0 | exact fnt hz0 | exact Int32.not_lt.mp hz0 | exact Int32.not_le.mp hz0 | exact Int32.not_lt.mpr hz0 | exact Int32.not_le.mpr hz0) ?_
            refine x_opp rfl rfl ?_
            refine a_callV sg rfl rfl rfl rfl (c_whites gs gk b3 b1 ?_)
            refine x_opp rfl rfl ?_
            refine m_getg (s_0 dy) rfl rfl rfl ?_
            refine m_getg (s_8 dy) rfl rfl rfl ?_
            rw [t3.1, w1]
            refine x_idiv (by first | exact hz0 | exact nt_f hz0 | exact tnf hz0 | exact fnt hz0 | exact Int32.not_lt.mp hz0 | exact Int32.not_le.mp hz0 | exact Int32.not_lt.mpr hz0 | exact Int32.not_le.mpr hz0) ?_
            refine x_go rfl ?_
            refine a_iret rfl rfl rfl ?_
            rw [jC_rel r3]
            refine ⟨_, dy, _, rfl, rfl, ?_⟩; refine e_intro rfl rfl ?_
            obtain ⟨e4, g3, th3⟩ := tail M3 r3
            refine x_opp rfl rfl ?_
            refine x_kcg rfl ?_
            refine a_putJ 19 (s_65 dy) rfl rfl rfl rfl ?_
            refine x_opp rfl rfl ?_
            refine a_callS rfl rfl rfl rfl (k_isGrid ?_)
            refine a_ifF rfl rfl br_eqz (by first | exact hg | exact nt_f hg | exact tnf hg | exact fnt hg | exact Int32.not_lt.mp hg | exact Int32.not_le.mp hg | exact Int32.not_lt.mpr hg | exact Int32.not_le.mpr hg) ?_
            refine x_opp rfl rfl ?_
            refine x_kcg rfl ?_
            refine x_kcg rfl ?_
            refine a_callS rfl rfl rfl rfl (k_in ?_)
            refine a_ifT rfl rfl br_nez (by first | exact hu | exact nt_f hu | exact tnf hu | exact fnt hu | exact Int32.not_lt.mp hu | exact Int32.not_le.mp hu | exact Int32.not_lt.mpr hu | exact Int32.not_le.mpr hu) ?_
            refine x_opp rfl rfl ?_
            refine m_getg (s_65 dy) rfl rfl rfl ?_
            refine x_opp rfl rfl ?_
            refine a_baldN (s_66 dy) (k := G) rfl rfl rfl (by omega) (by decide) ?_
            refine a_ifT rfl rfl br_ne (by first | exact th3 | exact nt_f th3 | exact tnf th3 | exact fnt th3 | exact Int32.not_lt.mp th3 | exact Int32.not_le.mp th3 | exact Int32.not_lt.mpr th3 | exact Int32.not_le.mpr th3) ?_
            refine x_opp rfl rfl ?_
            refine x_opp rfl rfl ?_
            refine a_callV (s_65 dy) rfl rfl rfl rfl (k_ents g3 hG4 (fun M4 t4 r4 => ?_))
            refine x_kcg rfl ?_
            refine x_opp rfl rfl ?_
            refine x_kcg rfl ?_
            refine x_opp rfl rfl ?_
            refine x_kcg rfl ?_
            refine x_opp rfl rfl ?_
            refine x_go rfl ?_
            rw [e4] at t4
            have g4 := rG_rel r4 g3
            have e5 : gE M4 G = gE M1 G := (gE_rel r4 G).trans e4
            have t5 : mTab M4 (gE M4 G) := by rw [e5]; exact t4
            obtain ⟨H5, W5, b1', b2', b4', b6', b3', b5', gk', mk', e', w0', w1', w2', w3', w4', w5'⟩ := rG_views g4 hG4
            refine x_lvs [(0, .ref 65), (1, .int (nI G)), (2, .int (nI 8)), (3, .int (nI 0)), (4, .int (nI 0)), (5, .int (nI 0))] rfl rfl rfl ⟨rfl, rfl, rfl, rfl, rfl, rfl, trivial⟩ ?_
            refine l_jR g4 hG4 ?_
            refine x_opp rfl rfl ?_
            refine x_tabIn (by decide) rfl ?_
            refine x_opp rfl rfl ?_
            refine m_getg (s_65 dy) rfl rfl rfl ?_
            rw [t4.1]
            refine a_ifT rfl rfl br_ne (by first | exact hz0 | exact nt_f hz0 | exact tnf hz0 | exact fnt hz0 | exact Int32.not_lt.mp hz0 | exact Int32.not_le.mp hz0 | exact Int32.not_lt.mpr hz0 | exact Int32.not_le.mpr hz0) ?_
            refine x_opp rfl rfl ?_
            refine x_opp rfl rfl ?_
            refine x_kcg rfl ?_
            refine a_callV (s_65 dy) rfl rfl rfl rfl (k_whites hG4 mk' g4.1 t5 (by rw [e5]; omega) (by rw [e5]; exact oks) ?_)
            refine x_opp rfl rfl ?_
            refine m_getg (s_65 dy) rfl rfl rfl ?_
            rw [t4.1]
            refine x_idiv (by first | exact hz0 | exact nt_f hz0 | exact tnf hz0 | exact fnt hz0 | exact Int32.not_lt.mp hz0 | exact Int32.not_le.mp hz0 | exact Int32.not_lt.mpr hz0 | exact Int32.not_le.mpr hz0) ?_
            refine x_go rfl ?_
            refine a_iret rfl rfl rfl ?_
            have ec : jC M4 G (-1) = jC M1 G (-1) := (jC_rel r4 G (-1)).trans ((jC_rel (rel_I r3 65 19 0) G (-1)).trans rfl)
            subst hM1
            refine ⟨?_, _, rfl, R_2 hR r3 r4⟩
            rw [← ec]
            rfl
        · refine x_opp rfl rfl ?_
          refine m_getg (s_0 dy) rfl rfl rfl ?_
          refine a_callV (s_1 dy) rfl rfl rfl rfl (c_clear (s_1 dy) ?_)
          refine x_opp rfl rfl ?_
          refine a_callS rfl rfl rfl rfl (c_isGridNumber ?_)
          rw [hM1]
          refine a_ifF rfl rfl br_eqz (by first | exact hg | exact nt_f hg | exact tnf hg | exact fnt hg | exact Int32.not_lt.mp hg | exact Int32.not_le.mp hg | exact Int32.not_lt.mpr hg | exact Int32.not_le.mpr hg) ?_
          refine x_opp rfl rfl ?_
          refine a_ifF rfl rfl br_lt (by first | exact u0 | exact nt_f u0 | exact tnf u0 | exact fnt u0 | exact Int32.not_lt.mp u0 | exact Int32.not_le.mp u0 | exact Int32.not_lt.mpr u0 | exact Int32.not_le.mpr u0) ?_
          refine x_opp rfl rfl ?_
          refine x_kcg rfl ?_
          refine a_icT rfl rfl br_le (by first | exact u4 | exact nt_f u4 | exact tnf u4 | exact fnt u4 | exact Int32.not_lt.mp u4 | exact Int32.not_le.mp u4 | exact Int32.not_lt.mpr u4 | exact Int32.not_le.mpr u4) ?_
          refine x_opp rfl rfl ?_
          refine x_opp rfl rfl ?_
          refine a_callV (s_0 dy) rfl rfl rfl rfl (c_look1 g1 hG4 th (fun M3 t3 r3 => ?_))
          refine a_ifT rfl rfl br_ne (by decide) ?_
          refine x_lvs [(0, .ref 0), (1, .int (nI G)), (2, .int (nI w'))] rfl rfl rfl ⟨rfl, rfl, rfl, trivial⟩ ?_
          have g3' := rG_rel r3 g1
          refine l_jD hw h8 g3' hG4 (by rw [gE_rel r3]; exact t3) (fun M5 r5 => ?_)
          rw [jv_rel r3]
          have r35 := rel_tr r3 r5
          refine ⟨_, dy, _, rfl, rfl, ?_⟩; refine e_intro rfl rfl ?_
          obtain ⟨e4, g3, th3⟩ := tail M5 r35
          refine x_opp rfl rfl ?_
          refine x_kcg rfl ?_
          refine a_putJ 19 (s_65 dy) rfl rfl rfl rfl ?_
          refine x_opp rfl rfl ?_
          refine a_callS rfl rfl rfl rfl (k_isGrid ?_)
          refine a_ifF rfl rfl br_eqz (by first | exact hg | exact nt_f hg | exact tnf hg | exact fnt hg | exact Int32.not_lt.mp hg | exact Int32.not_le.mp hg | exact Int32.not_lt.mpr hg | exact Int32.not_le.mpr hg) ?_
          refine x_opp rfl rfl ?_
          refine x_kcg rfl ?_
          refine x_kcg rfl ?_
          refine a_callS rfl rfl rfl rfl (k_in ?_)
          refine a_ifT rfl rfl br_nez (by first | exact hu | exact nt_f hu | exact tnf hu | exact fnt hu | exact Int32.not_lt.mp hu | exact Int32.not_le.mp hu | exact Int32.not_lt.mpr hu | exact Int32.not_le.mpr hu) ?_
          refine x_opp rfl rfl ?_
          refine m_getg (s_65 dy) rfl rfl rfl ?_
          refine x_opp rfl rfl ?_
          refine a_baldN (s_66 dy) (k := G) rfl rfl rfl (by omega) (by decide) ?_
          refine a_ifT rfl rfl br_ne (by first | exact th3 | exact nt_f th3 | exact tnf th3 | exact fnt th3 | exact Int32.not_lt.mp th3 | exact Int32.not_le.mp th3 | exact Int32.not_lt.mpr th3 | exact Int32.not_le.mpr th3) ?_
          refine x_opp rfl rfl ?_
          refine x_opp rfl rfl ?_
          refine a_callV (s_65 dy) rfl rfl rfl rfl (k_ents g3 hG4 (fun M4 t4 r4 => ?_))
          refine x_kcg rfl ?_
          refine x_opp rfl rfl ?_
          refine x_kcg rfl ?_
          refine x_opp rfl rfl ?_
          refine x_kcg rfl ?_
          refine x_opp rfl rfl ?_
          refine x_go rfl ?_
          have g4 := rG_rel r4 g3
          have e5 : gE M4 G = gE (m_setI M5 65 19 0) G := gE_rel r4 G
          refine x_lvs [(0, .ref 65), (1, .int (nI G)), (2, .int (nI w')), (3, .int (nI 0)), (4, .int (nI 0)), (5, .int (nI 0))] rfl rfl rfl ⟨rfl, rfl, rfl, rfl, rfl, rfl, trivial⟩ ?_
          refine l_jR g4 hG4 (l_jM hw h8 g4 hG4 (by rw [e5]; exact t4) (fun M6 r6 => ?_))
          have ec : jv M4 G w' = jv M1 G w' := (jv_rel r4 G w').trans ((jv_rel (rel_I r35 65 19 0) G w').trans rfl)
          rw [ec]
          subst hM1
          exact ⟨rfl, _, rfl, R_2 hR r35 (rel_tr r4 r6)⟩
    · by_cases u0 : u < 0
      · refine x_opp rfl rfl ?_
        refine m_getg (s_0 dy) rfl rfl rfl ?_
        refine a_callV (s_1 dy) rfl rfl rfl rfl (c_clear (s_1 dy) ?_)
        refine x_opp rfl rfl ?_
        refine a_callS rfl rfl rfl rfl (c_isGridNumber ?_)
        rw [hM1]
        refine a_ifF rfl rfl br_eqz (by first | exact hg | exact nt_f hg | exact tnf hg | exact fnt hg | exact Int32.not_lt.mp hg | exact Int32.not_le.mp hg | exact Int32.not_lt.mpr hg | exact Int32.not_le.mpr hg) ?_
        refine x_opp rfl rfl ?_
        refine a_ifT rfl rfl br_lt (by first | exact u0 | exact nt_f u0 | exact tnf u0 | exact fnt u0 | exact Int32.not_lt.mp u0 | exact Int32.not_le.mp u0 | exact Int32.not_lt.mpr u0 | exact Int32.not_le.mpr u0) ?_
        refine x_kcg rfl ?_
        refine a_iret rfl rfl rfl ?_
        refine ⟨_, dy, _, rfl, rfl, ?_⟩; refine e_intro rfl rfl ?_
        refine x_opp rfl rfl ?_
        refine x_kcg rfl ?_
        refine a_putJ 19 (s_65 dy) rfl rfl rfl rfl ?_
        refine x_opp rfl rfl ?_
        refine a_callS rfl rfl rfl rfl (k_isGrid ?_)
        rw [hM2]
        refine a_ifF rfl rfl br_eqz (by first | exact hg | exact nt_f hg | exact tnf hg | exact fnt hg | exact Int32.not_lt.mp hg | exact Int32.not_le.mp hg | exact Int32.not_lt.mpr hg | exact Int32.not_le.mpr hg) ?_
        refine x_opp rfl rfl ?_
        refine x_kcg rfl ?_
        refine x_kcg rfl ?_
        refine a_callS rfl rfl rfl rfl (k_in ?_)
        refine a_ifF rfl rfl br_nez (by first | exact hu | exact nt_f hu | exact tnf hu | exact fnt hu | exact Int32.not_lt.mp hu | exact Int32.not_le.mp hu | exact Int32.not_lt.mpr hu | exact Int32.not_le.mpr hu) ?_
        refine x_kcg rfl ?_
        refine a_iret rfl rfl rfl ?_
        subst hM2; subst hM1; exact ⟨rfl, _, rfl, R_cl hR⟩
      · have u4 : ¬ u ≤ 10 := fun q => hu (by unfold inR; rw [if_neg u0, if_neg (Int32.not_lt.mpr q)])
        refine x_opp rfl rfl ?_
        refine m_getg (s_0 dy) rfl rfl rfl ?_
        refine a_callV (s_1 dy) rfl rfl rfl rfl (c_clear (s_1 dy) ?_)
        refine x_opp rfl rfl ?_
        refine a_callS rfl rfl rfl rfl (c_isGridNumber ?_)
        rw [hM1]
        refine a_ifF rfl rfl br_eqz (by first | exact hg | exact nt_f hg | exact tnf hg | exact fnt hg | exact Int32.not_lt.mp hg | exact Int32.not_le.mp hg | exact Int32.not_lt.mpr hg | exact Int32.not_le.mpr hg) ?_
        refine x_opp rfl rfl ?_
        refine a_ifF rfl rfl br_lt (by first | exact u0 | exact nt_f u0 | exact tnf u0 | exact fnt u0 | exact Int32.not_lt.mp u0 | exact Int32.not_le.mp u0 | exact Int32.not_lt.mpr u0 | exact Int32.not_le.mpr u0) ?_
        refine x_opp rfl rfl ?_
        refine x_kcg rfl ?_
        refine a_icF rfl rfl br_le (by first | exact u4 | exact nt_f u4 | exact tnf u4 | exact fnt u4 | exact Int32.not_lt.mp u4 | exact Int32.not_le.mp u4 | exact Int32.not_lt.mpr u4 | exact Int32.not_le.mpr u4) ?_
        refine x_kcg rfl ?_
        refine a_iret rfl rfl rfl ?_
        refine ⟨_, dy, _, rfl, rfl, ?_⟩; refine e_intro rfl rfl ?_
        refine x_opp rfl rfl ?_
        refine x_kcg rfl ?_
        refine a_putJ 19 (s_65 dy) rfl rfl rfl rfl ?_
        refine x_opp rfl rfl ?_
        refine a_callS rfl rfl rfl rfl (k_isGrid ?_)
        rw [hM2]
        refine a_ifF rfl rfl br_eqz (by first | exact hg | exact nt_f hg | exact tnf hg | exact fnt hg | exact Int32.not_lt.mp hg | exact Int32.not_le.mp hg | exact Int32.not_lt.mpr hg | exact Int32.not_le.mpr hg) ?_
        refine x_opp rfl rfl ?_
        refine x_kcg rfl ?_
        refine x_kcg rfl ?_
        refine a_callS rfl rfl rfl rfl (k_in ?_)
        refine a_ifF rfl rfl br_nez (by first | exact hu | exact nt_f hu | exact tnf hu | exact fnt hu | exact Int32.not_lt.mp hu | exact Int32.not_le.mp hu | exact Int32.not_lt.mpr hu | exact Int32.not_le.mpr hu) ?_
        refine x_kcg rfl ?_
        refine a_iret rfl rfl rfl ?_
        subst hM2; subst hM1; exact ⟨rfl, _, rfl, R_cl hR⟩
  · refine x_opp rfl rfl ?_
    refine m_getg (s_0 dy) rfl rfl rfl ?_
    refine a_callV (s_1 dy) rfl rfl rfl rfl (c_clear (s_1 dy) ?_)
    refine x_opp rfl rfl ?_
    refine a_callS rfl rfl rfl rfl (c_isGridNumber ?_)
    rw [hM1]
    refine a_ifT rfl rfl br_eqz (by first | exact hg | exact nt_f hg | exact tnf hg | exact fnt hg | exact Int32.not_lt.mp hg | exact Int32.not_le.mp hg | exact Int32.not_lt.mpr hg | exact Int32.not_le.mpr hg) ?_
    refine x_kcg rfl ?_
    refine a_iret rfl rfl rfl ?_
    refine ⟨_, dy, _, rfl, rfl, ?_⟩; refine e_intro rfl rfl ?_
    refine x_opp rfl rfl ?_
    refine x_kcg rfl ?_
    refine a_putJ 19 (s_65 dy) rfl rfl rfl rfl ?_
    refine x_opp rfl rfl ?_
    refine a_callS rfl rfl rfl rfl (k_isGrid ?_)
    rw [hM2]
    refine a_ifT rfl rfl br_eqz (by first | exact hg | exact nt_f hg | exact tnf hg | exact fnt hg | exact Int32.not_lt.mp hg | exact Int32.not_le.mp hg | exact Int32.not_lt.mpr hg | exact Int32.not_le.mpr hg) ?_
    refine x_kcg rfl ?_
    refine a_iret rfl rfl rfl ?_
    subst hM2; subst hM1; exact ⟨rfl, _, rfl, R_cl hR⟩
end JU
