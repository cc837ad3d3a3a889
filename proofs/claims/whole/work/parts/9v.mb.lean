/-! the reference moves a row -/
def rfC (f : Nat → Int32) (G T a c0 b d0 w0 x : Nat) : Int32 := if 49 * T + (b * 7 + d0) ≤ x ∧ x < 49 * T + (b * 7 + d0) + w0 then f (49 * G + (a * 7 + c0 + (x - (49 * T + (b * 7 + d0))))) else f x
theorem rfC_s (f : Nat → Int32) (G T a c0 b d0 k x : Nat) : rfC f G T a c0 b d0 (k + 1) x = if x = 49 * T + (b * 7 + (d0 + k)) then f (49 * G + (a * 7 + (c0 + k))) else rfC f G T a c0 b d0 k x := by
  unfold rfC
  by_cases e : x = 49 * T + (b * 7 + (d0 + k))
  · rw [if_pos e, if_pos (by omega)]
    congr 1
    omega
  · rw [if_neg e]
    by_cases q : 49 * T + (b * 7 + d0) ≤ x ∧ x < 49 * T + (b * 7 + d0) + k
    · rw [if_pos q, if_pos (by omega)]
    · rw [if_neg q, if_neg (by omega)]
section MB
variable {L : Nat} {xs : Nat → Int32} {t d : Nat} {dy : List sh_T} {M : mm_T} {Q : Option Value → sm_W → Prop} {n G T : Nat}
/-- what both sides hold of a grid's rows -/
def vwG (M : mm_T) (G : Nat) : Prop := ∃ H, H ≤ 7 ∧ M.1 (45 + 5 * G) 5 = nI H ∧ M.1 67 G = nI H ∧ (∀ i, i < 7 → M.1 (47 + 5 * G) i = mL M G i) ∧ M.1 (45 + 5 * G) 4 = M.1 66 G
set_option maxRecDepth 4000 in
theorem c_mref {rr c ss e w : Int32} (hv : vwG M G) (hv' : vwG M T) (hG : G < 4) (hT : T < 4) (hq : Q (some (.int (mvR M G T rr c ss e w))) (wm (sh0 ++ dy) M)) : sm_E L xs (d + 2) 125 [.ref (45 + 5 * G), .int rr, .int c, .ref (45 + 5 * T), .int ss, .int e, .int w] (wm (sh0 ++ dy) M) Q := by
  obtain ⟨sg, sc, sl, -⟩ := gsh_at dy G hG
  obtain ⟨sg', sc', sl', -⟩ := gsh_at dy T hT
  obtain ⟨H, b1, b3, b4, v2, a1⟩ := hv
  obtain ⟨H', b1', b3', b4', v2', a1'⟩ := hv'
  have e5 : M.1 (45 + 5 * G) 5 = M.1 67 G := b3.trans b4.symm
  have e5' : M.1 (45 + 5 * T) 5 = M.1 67 T := b3'.trans b4'.symm
  refine e_intro rfl rfl ?_
  unfold mvR at hq
  by_cases c1 : M.1 66 G = 0
  · rw [if_pos c1] at hq
    have t1 : M.1 (45 + 5 * G) 4 = 0 := a1.trans c1
    refine x_opp rfl rfl ?_
    refine m_getg sg rfl rfl rfl ?_
    refine a_ifF rfl rfl br_ne (fun h => h t1) ?_
    refine x_kcg rfl ?_
    refine a_iret rfl rfl rfl ?_
    exact hq
  · have t1 : ¬ M.1 (45 + 5 * G) 4 = 0 := by rw [a1]; exact c1
    rw [if_neg c1] at hq
    by_cases c2 : gRow (M.1 67 G) rr = true
    · obtain ⟨i, hi, rfl⟩ := gRow_t c2 (by rw [b4]; exact nI_le (b := 7) b1 (by decide))
      rw [if_neg (tnf c2)] at hq
      by_cases c3 : M.1 66 T = 0
      · rw [if_pos c3] at hq
        have t3 : M.1 (45 + 5 * T) 4 = 0 := a1'.trans c3
        refine x_opp rfl rfl ?_
        refine m_getg sg rfl rfl rfl ?_
        refine a_ifT rfl rfl br_ne (by first | exact t1 | exact nt_f t1 | exact tnf t1 | exact fnt t1 | exact Int32.not_lt.mp t1 | exact Int32.not_le.mp t1 | exact Int32.not_lt.mpr t1 | exact Int32.not_le.mpr t1) ?_
        refine x_opp rfl rfl ?_
        refine x_opp rfl rfl ?_
        refine a_callV sg rfl rfl rfl rfl (c_hasRow sg ?_)
        rw [e5]
        refine a_ifT rfl rfl br_nez (by first | exact c2 | exact nt_f c2 | exact tnf c2 | exact fnt c2 | exact Int32.not_lt.mp c2 | exact Int32.not_le.mp c2 | exact Int32.not_lt.mpr c2 | exact Int32.not_le.mpr c2) ?_
        refine x_opp rfl rfl ?_
        refine m_getg sg' rfl rfl rfl ?_
        refine a_ifF rfl rfl br_ne (fun h => h t3) ?_
        refine x_kcg rfl ?_
        refine a_iret rfl rfl rfl ?_
        exact hq
      · have t3 : ¬ M.1 (45 + 5 * T) 4 = 0 := by rw [a1']; exact c3
        rw [if_neg c3] at hq
        by_cases c4 : gRow (M.1 67 T) ss = true
        · obtain ⟨j, hj, rfl⟩ := gRow_t c4 (by rw [b4']; exact nI_le (b := 7) b1' (by decide))
          rw [if_neg (tnf c4), nI_clamp (by omega), nI_clamp (by omega)] at hq
          have l1 : M.1 (47 + 5 * G) i = mL M G i := v2 i hi
          have l2 : M.1 (47 + 5 * T) j = mL M T j := v2' j hj
          by_cases c5 : mL M G i < 0
          · rw [if_pos c5] at hq
            refine x_opp rfl rfl ?_
            refine m_getg sg rfl rfl rfl ?_
            refine a_ifT rfl rfl br_ne (by first | exact t1 | exact nt_f t1 | exact tnf t1 | exact fnt t1 | exact Int32.not_lt.mp t1 | exact Int32.not_le.mp t1 | exact Int32.not_lt.mpr t1 | exact Int32.not_le.mpr t1) ?_
            refine x_opp rfl rfl ?_
            refine x_opp rfl rfl ?_
            refine a_callV sg rfl rfl rfl rfl (c_hasRow sg ?_)
            rw [e5]
            refine a_ifT rfl rfl br_nez (by first | exact c2 | exact nt_f c2 | exact tnf c2 | exact fnt c2 | exact Int32.not_lt.mp c2 | exact Int32.not_le.mp c2 | exact Int32.not_lt.mpr c2 | exact Int32.not_le.mpr c2) ?_
            refine x_opp rfl rfl ?_
            refine m_getg sg' rfl rfl rfl ?_
            refine a_ifT rfl rfl br_ne (by first | exact t3 | exact nt_f t3 | exact tnf t3 | exact fnt t3 | exact Int32.not_lt.mp t3 | exact Int32.not_le.mp t3 | exact Int32.not_lt.mpr t3 | exact Int32.not_le.mpr t3) ?_
            refine x_opp rfl rfl ?_
            refine x_opp rfl rfl ?_
            refine a_callV sg' rfl rfl rfl rfl (c_hasRow sg' ?_)
            rw [e5']
            refine a_ifT rfl rfl br_nez (by first | exact c4 | exact nt_f c4 | exact tnf c4 | exact fnt c4 | exact Int32.not_lt.mp c4 | exact Int32.not_le.mp c4 | exact Int32.not_lt.mpr c4 | exact Int32.not_le.mpr c4) ?_
            refine x_opp rfl rfl ?_
            refine m_getg sg rfl rfl rfl ?_
            refine x_opp rfl rfl ?_
            refine a_ialdN sl (k := i) rfl rfl rfl (by omega) (by decide) ?_
            rw [l1]
            refine a_ifT rfl rfl br_lt (by first | exact c5 | exact nt_f c5 | exact tnf c5 | exact fnt c5 | exact Int32.not_lt.mp c5 | exact Int32.not_le.mp c5 | exact Int32.not_lt.mpr c5 | exact Int32.not_le.mpr c5) ?_
            refine x_kcg rfl ?_
            refine a_iret rfl rfl rfl ?_
            exact hq
          · rw [if_neg c5] at hq
            by_cases c6 : mL M T j < 0
            · rw [if_pos c6] at hq
              refine x_opp rfl rfl ?_
              refine m_getg sg rfl rfl rfl ?_
              refine a_ifT rfl rfl br_ne (by first | exact t1 | exact nt_f t1 | exact tnf t1 | exact fnt t1 | exact Int32.not_lt.mp t1 | exact Int32.not_le.mp t1 | exact Int32.not_lt.mpr t1 | exact Int32.not_le.mpr t1) ?_
              refine x_opp rfl rfl ?_
              refine x_opp rfl rfl ?_
              refine a_callV sg rfl rfl rfl rfl (c_hasRow sg ?_)
              rw [e5]
              refine a_ifT rfl rfl br_nez (by first | exact c2 | exact nt_f c2 | exact tnf c2 | exact fnt c2 | exact Int32.not_lt.mp c2 | exact Int32.not_le.mp c2 | exact Int32.not_lt.mpr c2 | exact Int32.not_le.mpr c2) ?_
              refine x_opp rfl rfl ?_
              refine m_getg sg' rfl rfl rfl ?_
              refine a_ifT rfl rfl br_ne (by first | exact t3 | exact nt_f t3 | exact tnf t3 | exact fnt t3 | exact Int32.not_lt.mp t3 | exact Int32.not_le.mp t3 | exact Int32.not_lt.mpr t3 | exact Int32.not_le.mpr t3) ?_
              refine x_opp rfl rfl ?_
              refine x_opp rfl rfl ?_
              refine a_callV sg' rfl rfl rfl rfl (c_hasRow sg' ?_)
              rw [e5']
              refine a_ifT rfl rfl br_nez (by first | exact c4 | exact nt_f c4 | exact tnf c4 | exact fnt c4 | exact Int32.not_lt.mp c4 | exact Int32.not_le.mp c4 | exact Int32.not_lt.mpr c4 | exact Int32.not_le.mpr c4) ?_
              refine x_opp rfl rfl ?_
              refine m_getg sg rfl rfl rfl ?_
              refine x_opp rfl rfl ?_
              refine a_ialdN sl (k := i) rfl rfl rfl (by omega) (by decide) ?_
              rw [l1]
              refine a_ifF rfl rfl br_lt (by first | exact c5 | exact nt_f c5 | exact tnf c5 | exact fnt c5 | exact Int32.not_lt.mp c5 | exact Int32.not_le.mp c5 | exact Int32.not_lt.mpr c5 | exact Int32.not_le.mpr c5) ?_
              refine x_opp rfl rfl ?_
              refine m_getg sg' rfl rfl rfl ?_
              refine x_opp rfl rfl ?_
              refine a_ialdN sl' (k := j) rfl rfl rfl (by omega) (by decide) ?_
              rw [l2]
              refine a_ifF rfl rfl br_ge (by first | exact c6 | exact nt_f c6 | exact tnf c6 | exact fnt c6 | exact Int32.not_lt.mp c6 | exact Int32.not_le.mp c6 | exact Int32.not_lt.mpr c6 | exact Int32.not_le.mpr c6) ?_
              refine x_kcg rfl ?_
              refine a_iret rfl rfl rfl ?_
              exact hq
            · rw [if_neg c6] at hq
              by_cases c7 : gPl (mL M G i) c w = true
              · rw [if_neg (tnf c7)] at hq
                by_cases c8 : gPl (mL M T j) e w = true
                · rw [if_neg (tnf c8)] at hq
                  refine x_opp rfl rfl ?_
                  refine m_getg sg rfl rfl rfl ?_
                  refine a_ifT rfl rfl br_ne (by first | exact t1 | exact nt_f t1 | exact tnf t1 | exact fnt t1 | exact Int32.not_lt.mp t1 | exact Int32.not_le.mp t1 | exact Int32.not_lt.mpr t1 | exact Int32.not_le.mpr t1) ?_
                  refine x_opp rfl rfl ?_
                  refine x_opp rfl rfl ?_
                  refine a_callV sg rfl rfl rfl rfl (c_hasRow sg ?_)
                  rw [e5]
                  refine a_ifT rfl rfl br_nez (by first | exact c2 | exact nt_f c2 | exact tnf c2 | exact fnt c2 | exact Int32.not_lt.mp c2 | exact Int32.not_le.mp c2 | exact Int32.not_lt.mpr c2 | exact Int32.not_le.mpr c2) ?_
                  refine x_opp rfl rfl ?_
                  refine m_getg sg' rfl rfl rfl ?_
                  refine a_ifT rfl rfl br_ne (by first | exact t3 | exact nt_f t3 | exact tnf t3 | exact fnt t3 | exact Int32.not_lt.mp t3 | exact Int32.not_le.mp t3 | exact Int32.not_lt.mpr t3 | exact Int32.not_le.mpr t3) ?_
                  refine x_opp rfl rfl ?_
                  refine x_opp rfl rfl ?_
                  refine a_callV sg' rfl rfl rfl rfl (c_hasRow sg' ?_)
                  rw [e5']
                  refine a_ifT rfl rfl br_nez (by first | exact c4 | exact nt_f c4 | exact tnf c4 | exact fnt c4 | exact Int32.not_lt.mp c4 | exact Int32.not_le.mp c4 | exact Int32.not_lt.mpr c4 | exact Int32.not_le.mpr c4) ?_
                  refine x_opp rfl rfl ?_
                  refine m_getg sg rfl rfl rfl ?_
                  refine x_opp rfl rfl ?_
                  refine a_ialdN sl (k := i) rfl rfl rfl (by omega) (by decide) ?_
                  rw [l1]
                  refine a_ifF rfl rfl br_lt (by first | exact c5 | exact nt_f c5 | exact tnf c5 | exact fnt c5 | exact Int32.not_lt.mp c5 | exact Int32.not_le.mp c5 | exact Int32.not_lt.mpr c5 | exact Int32.not_le.mpr c5) ?_
                  refine x_opp rfl rfl ?_
                  refine m_getg sg' rfl rfl rfl ?_
                  refine x_opp rfl rfl ?_
                  refine a_ialdN sl' (k := j) rfl rfl rfl (by omega) (by decide) ?_
                  rw [l2]
                  refine a_ifT rfl rfl br_ge (by first | exact c6 | exact nt_f c6 | exact tnf c6 | exact fnt c6 | exact Int32.not_lt.mp c6 | exact Int32.not_le.mp c6 | exact Int32.not_lt.mpr c6 | exact Int32.not_le.mpr c6) ?_
                  iterate 4 (refine x_opp rfl rfl ?_)
                  refine a_callV sg rfl rfl rfl rfl (c_hasPlaces sg sl (in7 hi) ?_)
                  rw [nI_clamp (by omega), l1]
                  refine a_ifF rfl rfl br_eqz (by first | exact c7 | exact nt_f c7 | exact tnf c7 | exact fnt c7 | exact Int32.not_lt.mp c7 | exact Int32.not_le.mp c7 | exact Int32.not_lt.mpr c7 | exact Int32.not_le.mpr c7) ?_
                  iterate 4 (refine x_opp rfl rfl ?_)
                  refine a_callV sg' rfl rfl rfl rfl (c_hasPlaces sg' sl' (in7 hj) ?_)
                  rw [nI_clamp (by omega), l2]
                  refine a_ifF rfl rfl br_eqz (by first | exact c8 | exact nt_f c8 | exact tnf c8 | exact fnt c8 | exact Int32.not_lt.mp c8 | exact Int32.not_le.mp c8 | exact Int32.not_lt.mpr c8 | exact Int32.not_le.mpr c8) ?_
                  refine x_kcg rfl ?_
                  refine x_go rfl ?_
                  refine a_iret rfl rfl rfl ?_
                  exact hq
                · rw [if_pos (nt_f c8)] at hq
                  refine x_opp rfl rfl ?_
                  refine m_getg sg rfl rfl rfl ?_
                  refine a_ifT rfl rfl br_ne (by first | exact t1 | exact nt_f t1 | exact tnf t1 | exact fnt t1 | exact Int32.not_lt.mp t1 | exact Int32.not_le.mp t1 | exact Int32.not_lt.mpr t1 | exact Int32.not_le.mpr t1) ?_
                  refine x_opp rfl rfl ?_
                  refine x_opp rfl rfl ?_
                  refine a_callV sg rfl rfl rfl rfl (c_hasRow sg ?_)
                  rw [e5]
                  refine a_ifT rfl rfl br_nez (by first | exact c2 | exact nt_f c2 | exact tnf c2 | exact fnt c2 | exact Int32.not_lt.mp c2 | exact Int32.not_le.mp c2 | exact Int32.not_lt.mpr c2 | exact Int32.not_le.mpr c2) ?_
                  refine x_opp rfl rfl ?_
                  refine m_getg sg' rfl rfl rfl ?_
                  refine a_ifT rfl rfl br_ne (by first | exact t3 | exact nt_f t3 | exact tnf t3 | exact fnt t3 | exact Int32.not_lt.mp t3 | exact Int32.not_le.mp t3 | exact Int32.not_lt.mpr t3 | exact Int32.not_le.mpr t3) ?_
                  refine x_opp rfl rfl ?_
                  refine x_opp rfl rfl ?_
                  refine a_callV sg' rfl rfl rfl rfl (c_hasRow sg' ?_)
                  rw [e5']
                  refine a_ifT rfl rfl br_nez (by first | exact c4 | exact nt_f c4 | exact tnf c4 | exact fnt c4 | exact Int32.not_lt.mp c4 | exact Int32.not_le.mp c4 | exact Int32.not_lt.mpr c4 | exact Int32.not_le.mpr c4) ?_
                  refine x_opp rfl rfl ?_
                  refine m_getg sg rfl rfl rfl ?_
                  refine x_opp rfl rfl ?_
                  refine a_ialdN sl (k := i) rfl rfl rfl (by omega) (by decide) ?_
                  rw [l1]
                  refine a_ifF rfl rfl br_lt (by first | exact c5 | exact nt_f c5 | exact tnf c5 | exact fnt c5 | exact Int32.not_lt.mp c5 | exact Int32.not_le.mp c5 | exact Int32.not_lt.mpr c5 | exact Int32.not_le.mpr c5) ?_
                  refine x_opp rfl rfl ?_
                  refine m_getg sg' rfl rfl rfl ?_
                  refine x_opp rfl rfl ?_
                  refine a_ialdN sl' (k := j) rfl rfl rfl (by omega) (by decide) ?_
                  rw [l2]
                  refine a_ifT rfl rfl br_ge (by first | exact c6 | exact nt_f c6 | exact tnf c6 | exact fnt c6 | exact Int32.not_lt.mp c6 | exact Int32.not_le.mp c6 | exact Int32.not_lt.mpr c6 | exact Int32.not_le.mpr c6) ?_
                  iterate 4 (refine x_opp rfl rfl ?_)
                  refine a_callV sg rfl rfl rfl rfl (c_hasPlaces sg sl (in7 hi) ?_)
                  rw [nI_clamp (by omega), l1]
                  refine a_ifF rfl rfl br_eqz (by first | exact c7 | exact nt_f c7 | exact tnf c7 | exact fnt c7 | exact Int32.not_lt.mp c7 | exact Int32.not_le.mp c7 | exact Int32.not_lt.mpr c7 | exact Int32.not_le.mpr c7) ?_
                  iterate 4 (refine x_opp rfl rfl ?_)
                  refine a_callV sg' rfl rfl rfl rfl (c_hasPlaces sg' sl' (in7 hj) ?_)
                  rw [nI_clamp (by omega), l2]
                  refine a_ifT rfl rfl br_eqz (by first | exact c8 | exact nt_f c8 | exact tnf c8 | exact fnt c8 | exact Int32.not_lt.mp c8 | exact Int32.not_le.mp c8 | exact Int32.not_lt.mpr c8 | exact Int32.not_le.mpr c8) ?_
                  refine x_kcg rfl ?_
                  refine x_go rfl ?_
                  refine a_iret rfl rfl rfl ?_
                  exact hq
              · rw [if_pos (nt_f c7)] at hq
                refine x_opp rfl rfl ?_
                refine m_getg sg rfl rfl rfl ?_
                refine a_ifT rfl rfl br_ne (by first | exact t1 | exact nt_f t1 | exact tnf t1 | exact fnt t1 | exact Int32.not_lt.mp t1 | exact Int32.not_le.mp t1 | exact Int32.not_lt.mpr t1 | exact Int32.not_le.mpr t1) ?_
                refine x_opp rfl rfl ?_
                refine x_opp rfl rfl ?_
                refine a_callV sg rfl rfl rfl rfl (c_hasRow sg ?_)
                rw [e5]
                refine a_ifT rfl rfl br_nez (by first | exact c2 | exact nt_f c2 | exact tnf c2 | exact fnt c2 | exact Int32.not_lt.mp c2 | exact Int32.not_le.mp c2 | exact Int32.not_lt.mpr c2 | exact Int32.not_le.mpr c2) ?_
                refine x_opp rfl rfl ?_
                refine m_getg sg' rfl rfl rfl ?_
                refine a_ifT rfl rfl br_ne (by first | exact t3 | exact nt_f t3 | exact tnf t3 | exact fnt t3 | exact Int32.not_lt.mp t3 | exact Int32.not_le.mp t3 | exact Int32.not_lt.mpr t3 | exact Int32.not_le.mpr t3) ?_
                refine x_opp rfl rfl ?_
                refine x_opp rfl rfl ?_
                refine a_callV sg' rfl rfl rfl rfl (c_hasRow sg' ?_)
                rw [e5']
                refine a_ifT rfl rfl br_nez (by first | exact c4 | exact nt_f c4 | exact tnf c4 | exact fnt c4 | exact Int32.not_lt.mp c4 | exact Int32.not_le.mp c4 | exact Int32.not_lt.mpr c4 | exact Int32.not_le.mpr c4) ?_
                refine x_opp rfl rfl ?_
                refine m_getg sg rfl rfl rfl ?_
                refine x_opp rfl rfl ?_
                refine a_ialdN sl (k := i) rfl rfl rfl (by omega) (by decide) ?_
                rw [l1]
                refine a_ifF rfl rfl br_lt (by first | exact c5 | exact nt_f c5 | exact tnf c5 | exact fnt c5 | exact Int32.not_lt.mp c5 | exact Int32.not_le.mp c5 | exact Int32.not_lt.mpr c5 | exact Int32.not_le.mpr c5) ?_
                refine x_opp rfl rfl ?_
                refine m_getg sg' rfl rfl rfl ?_
                refine x_opp rfl rfl ?_
                refine a_ialdN sl' (k := j) rfl rfl rfl (by omega) (by decide) ?_
                rw [l2]
                refine a_ifT rfl rfl br_ge (by first | exact c6 | exact nt_f c6 | exact tnf c6 | exact fnt c6 | exact Int32.not_lt.mp c6 | exact Int32.not_le.mp c6 | exact Int32.not_lt.mpr c6 | exact Int32.not_le.mpr c6) ?_
                iterate 4 (refine x_opp rfl rfl ?_)
                refine a_callV sg rfl rfl rfl rfl (c_hasPlaces sg sl (in7 hi) ?_)
                rw [nI_clamp (by omega), l1]
                refine a_ifT rfl rfl br_eqz (by first | exact c7 | exact nt_f c7 | exact tnf c7 | exact fnt c7 | exact Int32.not_lt.mp c7 | exact Int32.not_le.mp c7 | exact Int32.not_lt.mpr c7 | exact Int32.not_le.mpr c7) ?_
                refine x_kcg rfl ?_
                refine x_go rfl ?_
                refine a_iret rfl rfl rfl ?_
                exact hq
        · rw [if_pos (nt_f c4)] at hq
          refine x_opp rfl rfl ?_
          refine m_getg sg rfl rfl rfl ?_
          refine a_ifT rfl rfl br_ne (by first | exact t1 | exact nt_f t1 | exact tnf t1 | exact fnt t1 | exact Int32.not_lt.mp t1 | exact Int32.not_le.mp t1 | exact Int32.not_lt.mpr t1 | exact Int32.not_le.mpr t1) ?_
          refine x_opp rfl rfl ?_
          refine x_opp rfl rfl ?_
          refine a_callV sg rfl rfl rfl rfl (c_hasRow sg ?_)
          rw [e5]
          refine a_ifT rfl rfl br_nez (by first | exact c2 | exact nt_f c2 | exact tnf c2 | exact fnt c2 | exact Int32.not_lt.mp c2 | exact Int32.not_le.mp c2 | exact Int32.not_lt.mpr c2 | exact Int32.not_le.mpr c2) ?_
          refine x_opp rfl rfl ?_
          refine m_getg sg' rfl rfl rfl ?_
          refine a_ifT rfl rfl br_ne (by first | exact t3 | exact nt_f t3 | exact tnf t3 | exact fnt t3 | exact Int32.not_lt.mp t3 | exact Int32.not_le.mp t3 | exact Int32.not_lt.mpr t3 | exact Int32.not_le.mpr t3) ?_
          refine x_opp rfl rfl ?_
          refine x_opp rfl rfl ?_
          refine a_callV sg' rfl rfl rfl rfl (c_hasRow sg' ?_)
          rw [e5']
          refine a_ifF rfl rfl br_nez (by first | exact c4 | exact nt_f c4 | exact tnf c4 | exact fnt c4 | exact Int32.not_lt.mp c4 | exact Int32.not_le.mp c4 | exact Int32.not_lt.mpr c4 | exact Int32.not_le.mpr c4) ?_
          refine x_kcg rfl ?_
          refine a_iret rfl rfl rfl ?_
          exact hq
    · rw [if_pos (nt_f c2)] at hq
      refine x_opp rfl rfl ?_
      refine m_getg sg rfl rfl rfl ?_
      refine a_ifT rfl rfl br_ne (by first | exact t1 | exact nt_f t1 | exact tnf t1 | exact fnt t1 | exact Int32.not_lt.mp t1 | exact Int32.not_le.mp t1 | exact Int32.not_lt.mpr t1 | exact Int32.not_le.mpr t1) ?_
      refine x_opp rfl rfl ?_
      refine x_opp rfl rfl ?_
      refine a_callV sg rfl rfl rfl rfl (c_hasRow sg ?_)
      rw [e5]
      refine a_ifF rfl rfl br_nez (by first | exact c2 | exact nt_f c2 | exact tnf c2 | exact fnt c2 | exact Int32.not_lt.mp c2 | exact Int32.not_le.mp c2 | exact Int32.not_lt.mpr c2 | exact Int32.not_le.mpr c2) ?_
      refine x_kcg rfl ?_
      refine a_iret rfl rfl rfl ?_
      exact hq
def rwW (M : mm_T) (G : Nat) (r : Int32) : Int32 := if M.1 66 G = 0 then 1 else if gRow (M.1 67 G) r = true then 0 else 2
set_option maxRecDepth 4000 in
theorem k_rowWrong {r : Int32} (hG : G < 4) (mk : mgOK M G) (hq : Q (some (.int (rwW M G r))) (wm (sh0 ++ dy) M)) : sm_E L xs (d + 2) 218 [.ref 65, .int (nI G), .int r] (wm (sh0 ++ dy) M) Q := by
  refine e_intro rfl rfl ?_
  unfold rwW at hq
  by_cases c1 : M.1 66 G = 0
  · rw [if_pos c1] at hq
    refine x_opp rfl rfl ?_
    refine m_getg (s_65 dy) rfl rfl rfl ?_
    refine x_opp rfl rfl ?_
    refine a_baldN (s_66 dy) (k := G) rfl rfl rfl (by omega) (by decide) ?_
    refine a_ifF rfl rfl br_ne (fun h => h c1) ?_
    refine x_kcg rfl ?_
    refine x_go rfl ?_
    refine a_iret rfl rfl rfl ?_
    exact hq
  · rw [if_neg c1] at hq
    by_cases c2 : gRow (M.1 67 G) r = true
    · rw [if_pos c2] at hq
      refine x_opp rfl rfl ?_
      refine m_getg (s_65 dy) rfl rfl rfl ?_
      refine x_opp rfl rfl ?_
      refine a_baldN (s_66 dy) (k := G) rfl rfl rfl (by omega) (by decide) ?_
      refine a_ifT rfl rfl br_ne (by first | exact c1 | exact nt_f c1 | exact tnf c1 | exact fnt c1 | exact Int32.not_lt.mp c1 | exact Int32.not_le.mp c1 | exact Int32.not_lt.mpr c1 | exact Int32.not_le.mpr c1) ?_
      refine x_opp rfl rfl ?_
      refine x_kcg rfl ?_
      refine x_opp rfl rfl ?_
      refine m_getg (s_65 dy) rfl rfl rfl ?_
      refine x_opp rfl rfl ?_
      refine a_ialdN (s_67 dy) (k := G) rfl rfl rfl (by omega) (by decide) ?_
      refine x_kcg rfl ?_
      refine x_opp rfl rfl ?_
      refine a_callS rfl rfl rfl rfl (k_inRow mk.1.1 ?_)
      refine a_ifF rfl rfl br_eqz (by first | exact c2 | exact nt_f c2 | exact tnf c2 | exact fnt c2 | exact Int32.not_lt.mp c2 | exact Int32.not_le.mp c2 | exact Int32.not_lt.mpr c2 | exact Int32.not_le.mpr c2) ?_
      refine x_kcg rfl ?_
      refine x_go rfl ?_
      refine a_iret rfl rfl rfl ?_
      exact hq
    · rw [if_neg c2] at hq
      refine x_opp rfl rfl ?_
      refine m_getg (s_65 dy) rfl rfl rfl ?_
      refine x_opp rfl rfl ?_
      refine a_baldN (s_66 dy) (k := G) rfl rfl rfl (by omega) (by decide) ?_
      refine a_ifT rfl rfl br_ne (by first | exact c1 | exact nt_f c1 | exact tnf c1 | exact fnt c1 | exact Int32.not_lt.mp c1 | exact Int32.not_le.mp c1 | exact Int32.not_lt.mpr c1 | exact Int32.not_le.mpr c1) ?_
      refine x_opp rfl rfl ?_
      refine x_kcg rfl ?_
      refine x_opp rfl rfl ?_
      refine m_getg (s_65 dy) rfl rfl rfl ?_
      refine x_opp rfl rfl ?_
      refine a_ialdN (s_67 dy) (k := G) rfl rfl rfl (by omega) (by decide) ?_
      refine x_kcg rfl ?_
      refine x_opp rfl rfl ?_
      refine a_callS rfl rfl rfl rfl (k_inRow mk.1.1 ?_)
      refine a_ifT rfl rfl br_eqz (by first | exact c2 | exact nt_f c2 | exact tnf c2 | exact fnt c2 | exact Int32.not_lt.mp c2 | exact Int32.not_le.mp c2 | exact Int32.not_lt.mpr c2 | exact Int32.not_le.mpr c2) ?_
      refine x_kcg rfl ?_
      refine x_go rfl ?_
      refine a_iret rfl rfl rfl ?_
      exact hq
theorem rwW_1 {r : Int32} (h : M.1 66 G = 0) : rwW M G r = 1 := by unfold rwW; rw [if_pos h]
theorem rwW_2 {r : Int32} (h : ¬ M.1 66 G = 0) (q : ¬ gRow (M.1 67 G) r = true) : rwW M G r = 2 := by unfold rwW; rw [if_neg h, if_neg q]
theorem rwW_0 {r : Int32} (h : ¬ M.1 66 G = 0) (q : gRow (M.1 67 G) r = true) : rwW M G r = 0 := by unfold rwW; rw [if_neg h, if_pos q]
theorem gPl_tt {ln c w : Int32} (g : gPl ln c w = true) : ¬ c < 0 ∧ ¬ ln - w < c := by
  unfold gPl at g
  by_cases h1 : c < 0
  · rw [if_pos h1] at g; cases g
  · rw [if_neg h1] at g
    by_cases h2 : ln - w < c
    · rw [if_pos h2] at g; cases g
    · exact ⟨h1, h2⟩
theorem gPl_ff {ln c w : Int32} (g : ¬ gPl ln c w = true) : c < 0 ∨ (¬ c < 0 ∧ ln - w < c) := by
  unfold gPl at g
  by_cases h1 : c < 0
  · exact Or.inl h1
  · rw [if_neg h1] at g
    by_cases h2 : ln - w < c
    · exact Or.inr ⟨h1, h2⟩
    · rw [if_neg h2] at g; exact absurd rfl g
set_option maxRecDepth 4000 in
set_option maxHeartbeats 1000000 in
theorem k_bringWrong {rr c ss e w : Int32} (hG : G < 4) (hT : T < 4) (mk : mgOK M G) (mk' : mgOK M T) (hq : Q (some (.int (mvR M G T rr c ss e w))) (wm (sh0 ++ dy) M)) : sm_E L xs (d + 3) 217 [.ref 65, .int (nI G), .int rr, .int c, .int (nI T), .int ss, .int e, .int w] (wm (sh0 ++ dy) M) Q := by
  refine e_intro rfl rfl ?_
  unfold mvR at hq
  by_cases c1 : M.1 66 G = 0
  · rw [if_pos c1] at hq
    iterate 3 (refine x_opp rfl rfl ?_)
    refine a_callV (s_65 dy) rfl rfl rfl rfl (k_rowWrong hG mk ?_)
    rw [rwW_1 c1]
    refine x_opp rfl rfl ?_
    refine x_opp rfl rfl ?_
    refine a_ifF rfl rfl br_le (by decide) ?_
    refine x_opp rfl rfl ?_
    refine x_go rfl ?_
    refine x_opp rfl rfl ?_
    refine x_opp rfl rfl ?_
    refine a_ifF rfl rfl br_le (by decide) ?_
    refine x_opp rfl rfl ?_
    refine a_iret rfl rfl rfl ?_
    exact hq
  · rw [if_neg c1] at hq
    by_cases c2 : gRow (M.1 67 G) rr = true
    · obtain ⟨i, hi, rfl⟩ := gRow_t c2 mk.1.2
      rw [if_neg (tnf c2)] at hq
      by_cases c3 : M.1 66 T = 0
      · rw [if_pos c3] at hq
        iterate 3 (refine x_opp rfl rfl ?_)
        refine a_callV (s_65 dy) rfl rfl rfl rfl (k_rowWrong hG mk ?_)
        rw [rwW_0 c1 c2]
        refine x_opp rfl rfl ?_
        refine x_opp rfl rfl ?_
        refine a_ifT rfl rfl br_le (by decide) ?_
        iterate 3 (refine x_opp rfl rfl ?_)
        refine a_callV (s_65 dy) rfl rfl rfl rfl (k_rowWrong hT mk' ?_)
        rw [rwW_1 c3]
        refine x_go rfl ?_
        refine x_opp rfl rfl ?_
        refine x_opp rfl rfl ?_
        refine a_ifF rfl rfl br_le (by decide) ?_
        refine x_opp rfl rfl ?_
        refine a_iret rfl rfl rfl ?_
        exact hq
      · rw [if_neg c3] at hq
        by_cases c4 : gRow (M.1 67 T) ss = true
        · obtain ⟨j, hj, rfl⟩ := gRow_t c4 mk'.1.2
          rw [if_neg (tnf c4), nI_clamp (by omega), nI_clamp (by omega)] at hq
          by_cases c5 : mL M G i < 0
          · rw [if_pos c5] at hq
            iterate 3 (refine x_opp rfl rfl ?_)
            refine a_callV (s_65 dy) rfl rfl rfl rfl (k_rowWrong hG mk ?_)
            rw [rwW_0 c1 c2]
            refine x_opp rfl rfl ?_
            refine x_opp rfl rfl ?_
            refine a_ifT rfl rfl br_le (by decide) ?_
            iterate 3 (refine x_opp rfl rfl ?_)
            refine a_callV (s_65 dy) rfl rfl rfl rfl (k_rowWrong hT mk' ?_)
            rw [rwW_0 c3 c4]
            refine x_go rfl ?_
            refine x_opp rfl rfl ?_
            refine x_opp rfl rfl ?_
            refine a_ifT rfl rfl br_le (by decide) ?_
            iterate 3 (refine x_opp rfl rfl ?_)
            refine a_callV (s_65 dy) rfl rfl rfl rfl (k_rowOf hG hi ?_)
            iterate 4 (refine x_opp rfl rfl ?_)
            refine a_callV (s_65 dy) rfl rfl rfl rfl (k_rowOf hT hj ?_)
            refine x_opp rfl rfl ?_
            refine x_opp rfl rfl ?_
            refine a_ifT rfl rfl br_lt (by first | exact c5 | exact nt_f c5 | exact tnf c5 | exact fnt c5 | exact Int32.not_lt.mp c5 | exact Int32.not_le.mp c5 | exact Int32.not_lt.mpr c5 | exact Int32.not_le.mpr c5) ?_
            refine x_kcg rfl ?_
            refine a_iret rfl rfl rfl ?_
            exact hq
          · rw [if_neg c5] at hq
            by_cases c6 : mL M T j < 0
            · rw [if_pos c6] at hq
              iterate 3 (refine x_opp rfl rfl ?_)
              refine a_callV (s_65 dy) rfl rfl rfl rfl (k_rowWrong hG mk ?_)
              rw [rwW_0 c1 c2]
              refine x_opp rfl rfl ?_
              refine x_opp rfl rfl ?_
              refine a_ifT rfl rfl br_le (by decide) ?_
              iterate 3 (refine x_opp rfl rfl ?_)
              refine a_callV (s_65 dy) rfl rfl rfl rfl (k_rowWrong hT mk' ?_)
              rw [rwW_0 c3 c4]
              refine x_go rfl ?_
              refine x_opp rfl rfl ?_
              refine x_opp rfl rfl ?_
              refine a_ifT rfl rfl br_le (by decide) ?_
              iterate 3 (refine x_opp rfl rfl ?_)
              refine a_callV (s_65 dy) rfl rfl rfl rfl (k_rowOf hG hi ?_)
              iterate 4 (refine x_opp rfl rfl ?_)
              refine a_callV (s_65 dy) rfl rfl rfl rfl (k_rowOf hT hj ?_)
              refine x_opp rfl rfl ?_
              refine x_opp rfl rfl ?_
              refine a_ifF rfl rfl br_lt (by first | exact c5 | exact nt_f c5 | exact tnf c5 | exact fnt c5 | exact Int32.not_lt.mp c5 | exact Int32.not_le.mp c5 | exact Int32.not_lt.mpr c5 | exact Int32.not_le.mpr c5) ?_
              refine x_opp rfl rfl ?_
              refine a_ifF rfl rfl br_ge (by first | exact c6 | exact nt_f c6 | exact tnf c6 | exact fnt c6 | exact Int32.not_lt.mp c6 | exact Int32.not_le.mp c6 | exact Int32.not_lt.mpr c6 | exact Int32.not_le.mpr c6) ?_
              refine x_kcg rfl ?_
              refine a_iret rfl rfl rfl ?_
              exact hq
            · rw [if_neg c6] at hq
              -- the last four questions
              have two : (¬ gPl (mL M G i) c w = true ∨ ¬ gPl (mL M T j) e w = true) → Q (some (.int 2)) (wm (sh0 ++ dy) M) := by
                intro z
                by_cases c7 : gPl (mL M G i) c w = true
                · rw [if_neg (tnf c7)] at hq
                  rcases z with z | z
                  · exact absurd c7 z
                  · rw [if_pos (nt_f z)] at hq; exact hq
                · rw [if_pos (nt_f c7)] at hq; exact hq
              by_cases x1 : c < 0
              · have fin := two (Or.inl (fun z => (gPl_tt z).1 x1))
                iterate 3 (refine x_opp rfl rfl ?_)
                refine a_callV (s_65 dy) rfl rfl rfl rfl (k_rowWrong hG mk ?_)
                rw [rwW_0 c1 c2]
                refine x_opp rfl rfl ?_
                refine x_opp rfl rfl ?_
                refine a_ifT rfl rfl br_le (by decide) ?_
                iterate 3 (refine x_opp rfl rfl ?_)
                refine a_callV (s_65 dy) rfl rfl rfl rfl (k_rowWrong hT mk' ?_)
                rw [rwW_0 c3 c4]
                refine x_go rfl ?_
                refine x_opp rfl rfl ?_
                refine x_opp rfl rfl ?_
                refine a_ifT rfl rfl br_le (by decide) ?_
                iterate 3 (refine x_opp rfl rfl ?_)
                refine a_callV (s_65 dy) rfl rfl rfl rfl (k_rowOf hG hi ?_)
                iterate 4 (refine x_opp rfl rfl ?_)
                refine a_callV (s_65 dy) rfl rfl rfl rfl (k_rowOf hT hj ?_)
                refine x_opp rfl rfl ?_
                refine x_opp rfl rfl ?_
                refine a_ifF rfl rfl br_lt (by first | exact c5 | exact nt_f c5 | exact tnf c5 | exact fnt c5 | exact Int32.not_lt.mp c5 | exact Int32.not_le.mp c5 | exact Int32.not_lt.mpr c5 | exact Int32.not_le.mpr c5) ?_
                refine x_opp rfl rfl ?_
                refine a_ifT rfl rfl br_ge (by first | exact c6 | exact nt_f c6 | exact tnf c6 | exact fnt c6 | exact Int32.not_lt.mp c6 | exact Int32.not_le.mp c6 | exact Int32.not_lt.mpr c6 | exact Int32.not_le.mpr c6) ?_
                refine x_opp rfl rfl ?_
                refine a_ifT rfl rfl br_lt (by first | exact x1 | exact nt_f x1 | exact tnf x1 | exact fnt x1 | exact Int32.not_lt.mp x1 | exact Int32.not_le.mp x1 | exact Int32.not_lt.mpr x1 | exact Int32.not_le.mpr x1) ?_
                refine x_kcg rfl ?_
                refine x_go rfl ?_
                refine a_iret rfl rfl rfl ?_
                exact fin
              · by_cases x2 : e < 0
                · have fin := two (Or.inr (fun z => (gPl_tt z).1 x2))
                  iterate 3 (refine x_opp rfl rfl ?_)
                  refine a_callV (s_65 dy) rfl rfl rfl rfl (k_rowWrong hG mk ?_)
                  rw [rwW_0 c1 c2]
                  refine x_opp rfl rfl ?_
                  refine x_opp rfl rfl ?_
                  refine a_ifT rfl rfl br_le (by decide) ?_
                  iterate 3 (refine x_opp rfl rfl ?_)
                  refine a_callV (s_65 dy) rfl rfl rfl rfl (k_rowWrong hT mk' ?_)
                  rw [rwW_0 c3 c4]
                  refine x_go rfl ?_
                  refine x_opp rfl rfl ?_
                  refine x_opp rfl rfl ?_
                  refine a_ifT rfl rfl br_le (by decide) ?_
                  iterate 3 (refine x_opp rfl rfl ?_)
                  refine a_callV (s_65 dy) rfl rfl rfl rfl (k_rowOf hG hi ?_)
                  iterate 4 (refine x_opp rfl rfl ?_)
                  refine a_callV (s_65 dy) rfl rfl rfl rfl (k_rowOf hT hj ?_)
                  refine x_opp rfl rfl ?_
                  refine x_opp rfl rfl ?_
                  refine a_ifF rfl rfl br_lt (by first | exact c5 | exact nt_f c5 | exact tnf c5 | exact fnt c5 | exact Int32.not_lt.mp c5 | exact Int32.not_le.mp c5 | exact Int32.not_lt.mpr c5 | exact Int32.not_le.mpr c5) ?_
                  refine x_opp rfl rfl ?_
                  refine a_ifT rfl rfl br_ge (by first | exact c6 | exact nt_f c6 | exact tnf c6 | exact fnt c6 | exact Int32.not_lt.mp c6 | exact Int32.not_le.mp c6 | exact Int32.not_lt.mpr c6 | exact Int32.not_le.mpr c6) ?_
                  refine x_opp rfl rfl ?_
                  refine a_ifF rfl rfl br_lt (by first | exact x1 | exact nt_f x1 | exact tnf x1 | exact fnt x1 | exact Int32.not_lt.mp x1 | exact Int32.not_le.mp x1 | exact Int32.not_lt.mpr x1 | exact Int32.not_le.mpr x1) ?_
                  refine x_opp rfl rfl ?_
                  refine a_ifT rfl rfl br_lt (by first | exact x2 | exact nt_f x2 | exact tnf x2 | exact fnt x2 | exact Int32.not_lt.mp x2 | exact Int32.not_le.mp x2 | exact Int32.not_lt.mpr x2 | exact Int32.not_le.mpr x2) ?_
                  refine x_kcg rfl ?_
                  refine x_go rfl ?_
                  refine a_iret rfl rfl rfl ?_
                  exact fin
                · by_cases x3 : mL M G i - w < c
                  · have fin := two (Or.inl (fun z => (gPl_tt z).2 x3))
                    iterate 3 (refine x_opp rfl rfl ?_)
                    refine a_callV (s_65 dy) rfl rfl rfl rfl (k_rowWrong hG mk ?_)
                    rw [rwW_0 c1 c2]
                    refine x_opp rfl rfl ?_
                    refine x_opp rfl rfl ?_
                    refine a_ifT rfl rfl br_le (by decide) ?_
                    iterate 3 (refine x_opp rfl rfl ?_)
                    refine a_callV (s_65 dy) rfl rfl rfl rfl (k_rowWrong hT mk' ?_)
                    rw [rwW_0 c3 c4]
                    refine x_go rfl ?_
                    refine x_opp rfl rfl ?_
                    refine x_opp rfl rfl ?_
                    refine a_ifT rfl rfl br_le (by decide) ?_
                    iterate 3 (refine x_opp rfl rfl ?_)
                    refine a_callV (s_65 dy) rfl rfl rfl rfl (k_rowOf hG hi ?_)
                    iterate 4 (refine x_opp rfl rfl ?_)
                    refine a_callV (s_65 dy) rfl rfl rfl rfl (k_rowOf hT hj ?_)
                    refine x_opp rfl rfl ?_
                    refine x_opp rfl rfl ?_
                    refine a_ifF rfl rfl br_lt (by first | exact c5 | exact nt_f c5 | exact tnf c5 | exact fnt c5 | exact Int32.not_lt.mp c5 | exact Int32.not_le.mp c5 | exact Int32.not_lt.mpr c5 | exact Int32.not_le.mpr c5) ?_
                    refine x_opp rfl rfl ?_
                    refine a_ifT rfl rfl br_ge (by first | exact c6 | exact nt_f c6 | exact tnf c6 | exact fnt c6 | exact Int32.not_lt.mp c6 | exact Int32.not_le.mp c6 | exact Int32.not_lt.mpr c6 | exact Int32.not_le.mpr c6) ?_
                    refine x_opp rfl rfl ?_
                    refine a_ifF rfl rfl br_lt (by first | exact x1 | exact nt_f x1 | exact tnf x1 | exact fnt x1 | exact Int32.not_lt.mp x1 | exact Int32.not_le.mp x1 | exact Int32.not_lt.mpr x1 | exact Int32.not_le.mpr x1) ?_
                    refine x_opp rfl rfl ?_
                    refine a_ifF rfl rfl br_lt (by first | exact x2 | exact nt_f x2 | exact tnf x2 | exact fnt x2 | exact Int32.not_lt.mp x2 | exact Int32.not_le.mp x2 | exact Int32.not_lt.mpr x2 | exact Int32.not_le.mpr x2) ?_
                    iterate 4 (refine x_opp rfl rfl ?_)
                    refine a_icT rfl rfl br_gt (by first | exact x3 | exact nt_f x3 | exact tnf x3 | exact fnt x3 | exact Int32.not_lt.mp x3 | exact Int32.not_le.mp x3 | exact Int32.not_lt.mpr x3 | exact Int32.not_le.mpr x3) ?_
                    refine x_kcg rfl ?_
                    refine x_go rfl ?_
                    refine a_iret rfl rfl rfl ?_
                    exact fin
                  · have c7 : gPl (mL M G i) c w = true := by unfold gPl; rw [if_neg x1, if_neg x3]
                    rw [if_neg (tnf c7)] at hq
                    by_cases x4 : mL M T j - w < e
                    · have fin := two (Or.inr (fun z => (gPl_tt z).2 x4))
                      iterate 3 (refine x_opp rfl rfl ?_)
                      refine a_callV (s_65 dy) rfl rfl rfl rfl (k_rowWrong hG mk ?_)
                      rw [rwW_0 c1 c2]
                      refine x_opp rfl rfl ?_
                      refine x_opp rfl rfl ?_
                      refine a_ifT rfl rfl br_le (by decide) ?_
                      iterate 3 (refine x_opp rfl rfl ?_)
                      refine a_callV (s_65 dy) rfl rfl rfl rfl (k_rowWrong hT mk' ?_)
                      rw [rwW_0 c3 c4]
                      refine x_go rfl ?_
                      refine x_opp rfl rfl ?_
                      refine x_opp rfl rfl ?_
                      refine a_ifT rfl rfl br_le (by decide) ?_
                      iterate 3 (refine x_opp rfl rfl ?_)
                      refine a_callV (s_65 dy) rfl rfl rfl rfl (k_rowOf hG hi ?_)
                      iterate 4 (refine x_opp rfl rfl ?_)
                      refine a_callV (s_65 dy) rfl rfl rfl rfl (k_rowOf hT hj ?_)
                      refine x_opp rfl rfl ?_
                      refine x_opp rfl rfl ?_
                      refine a_ifF rfl rfl br_lt (by first | exact c5 | exact nt_f c5 | exact tnf c5 | exact fnt c5 | exact Int32.not_lt.mp c5 | exact Int32.not_le.mp c5 | exact Int32.not_lt.mpr c5 | exact Int32.not_le.mpr c5) ?_
                      refine x_opp rfl rfl ?_
                      refine a_ifT rfl rfl br_ge (by first | exact c6 | exact nt_f c6 | exact tnf c6 | exact fnt c6 | exact Int32.not_lt.mp c6 | exact Int32.not_le.mp c6 | exact Int32.not_lt.mpr c6 | exact Int32.not_le.mpr c6) ?_
                      refine x_opp rfl rfl ?_
                      refine a_ifF rfl rfl br_lt (by first | exact x1 | exact nt_f x1 | exact tnf x1 | exact fnt x1 | exact Int32.not_lt.mp x1 | exact Int32.not_le.mp x1 | exact Int32.not_lt.mpr x1 | exact Int32.not_le.mpr x1) ?_
                      refine x_opp rfl rfl ?_
                      refine a_ifF rfl rfl br_lt (by first | exact x2 | exact nt_f x2 | exact tnf x2 | exact fnt x2 | exact Int32.not_lt.mp x2 | exact Int32.not_le.mp x2 | exact Int32.not_lt.mpr x2 | exact Int32.not_le.mpr x2) ?_
                      iterate 4 (refine x_opp rfl rfl ?_)
                      refine a_icF rfl rfl br_gt (by first | exact x3 | exact nt_f x3 | exact tnf x3 | exact fnt x3 | exact Int32.not_lt.mp x3 | exact Int32.not_le.mp x3 | exact Int32.not_lt.mpr x3 | exact Int32.not_le.mpr x3) ?_
                      iterate 4 (refine x_opp rfl rfl ?_)
                      refine a_icF rfl rfl br_le (by first | exact x4 | exact nt_f x4 | exact tnf x4 | exact fnt x4 | exact Int32.not_lt.mp x4 | exact Int32.not_le.mp x4 | exact Int32.not_lt.mpr x4 | exact Int32.not_le.mpr x4) ?_
                      refine x_kcg rfl ?_
                      refine x_go rfl ?_
                      refine a_iret rfl rfl rfl ?_
                      exact fin
                    · have c8 : gPl (mL M T j) e w = true := by unfold gPl; rw [if_neg x2, if_neg x4]
                      rw [if_neg (tnf c8)] at hq
                      iterate 3 (refine x_opp rfl rfl ?_)
                      refine a_callV (s_65 dy) rfl rfl rfl rfl (k_rowWrong hG mk ?_)
                      rw [rwW_0 c1 c2]
                      refine x_opp rfl rfl ?_
                      refine x_opp rfl rfl ?_
                      refine a_ifT rfl rfl br_le (by decide) ?_
                      iterate 3 (refine x_opp rfl rfl ?_)
                      refine a_callV (s_65 dy) rfl rfl rfl rfl (k_rowWrong hT mk' ?_)
                      rw [rwW_0 c3 c4]
                      refine x_go rfl ?_
                      refine x_opp rfl rfl ?_
                      refine x_opp rfl rfl ?_
                      refine a_ifT rfl rfl br_le (by decide) ?_
                      iterate 3 (refine x_opp rfl rfl ?_)
                      refine a_callV (s_65 dy) rfl rfl rfl rfl (k_rowOf hG hi ?_)
                      iterate 4 (refine x_opp rfl rfl ?_)
                      refine a_callV (s_65 dy) rfl rfl rfl rfl (k_rowOf hT hj ?_)
                      refine x_opp rfl rfl ?_
                      refine x_opp rfl rfl ?_
                      refine a_ifF rfl rfl br_lt (by first | exact c5 | exact nt_f c5 | exact tnf c5 | exact fnt c5 | exact Int32.not_lt.mp c5 | exact Int32.not_le.mp c5 | exact Int32.not_lt.mpr c5 | exact Int32.not_le.mpr c5) ?_
                      refine x_opp rfl rfl ?_
                      refine a_ifT rfl rfl br_ge (by first | exact c6 | exact nt_f c6 | exact tnf c6 | exact fnt c6 | exact Int32.not_lt.mp c6 | exact Int32.not_le.mp c6 | exact Int32.not_lt.mpr c6 | exact Int32.not_le.mpr c6) ?_
                      refine x_opp rfl rfl ?_
                      refine a_ifF rfl rfl br_lt (by first | exact x1 | exact nt_f x1 | exact tnf x1 | exact fnt x1 | exact Int32.not_lt.mp x1 | exact Int32.not_le.mp x1 | exact Int32.not_lt.mpr x1 | exact Int32.not_le.mpr x1) ?_
                      refine x_opp rfl rfl ?_
                      refine a_ifF rfl rfl br_lt (by first | exact x2 | exact nt_f x2 | exact tnf x2 | exact fnt x2 | exact Int32.not_lt.mp x2 | exact Int32.not_le.mp x2 | exact Int32.not_lt.mpr x2 | exact Int32.not_le.mpr x2) ?_
                      iterate 4 (refine x_opp rfl rfl ?_)
                      refine a_icF rfl rfl br_gt (by first | exact x3 | exact nt_f x3 | exact tnf x3 | exact fnt x3 | exact Int32.not_lt.mp x3 | exact Int32.not_le.mp x3 | exact Int32.not_lt.mpr x3 | exact Int32.not_le.mpr x3) ?_
                      iterate 4 (refine x_opp rfl rfl ?_)
                      refine a_icT rfl rfl br_le (by first | exact x4 | exact nt_f x4 | exact tnf x4 | exact fnt x4 | exact Int32.not_lt.mp x4 | exact Int32.not_le.mp x4 | exact Int32.not_lt.mpr x4 | exact Int32.not_le.mpr x4) ?_
                      refine x_kcg rfl ?_
                      refine x_go rfl ?_
                      refine a_iret rfl rfl rfl ?_
                      exact hq
        · rw [if_pos (nt_f c4)] at hq
          iterate 3 (refine x_opp rfl rfl ?_)
          refine a_callV (s_65 dy) rfl rfl rfl rfl (k_rowWrong hG mk ?_)
          rw [rwW_0 c1 c2]
          refine x_opp rfl rfl ?_
          refine x_opp rfl rfl ?_
          refine a_ifT rfl rfl br_le (by decide) ?_
          iterate 3 (refine x_opp rfl rfl ?_)
          refine a_callV (s_65 dy) rfl rfl rfl rfl (k_rowWrong hT mk' ?_)
          rw [rwW_2 c3 c4]
          refine x_go rfl ?_
          refine x_opp rfl rfl ?_
          refine x_opp rfl rfl ?_
          refine a_ifF rfl rfl br_le (by decide) ?_
          refine x_opp rfl rfl ?_
          refine a_iret rfl rfl rfl ?_
          exact hq
    · rw [if_pos (nt_f c2)] at hq
      iterate 3 (refine x_opp rfl rfl ?_)
      refine a_callV (s_65 dy) rfl rfl rfl rfl (k_rowWrong hG mk ?_)
      rw [rwW_2 c1 c2]
      refine x_opp rfl rfl ?_
      refine x_opp rfl rfl ?_
      refine a_ifF rfl rfl br_le (by decide) ?_
      refine x_opp rfl rfl ?_
      refine x_go rfl ?_
      refine x_opp rfl rfl ?_
      refine x_opp rfl rfl ?_
      refine a_ifF rfl rfl br_le (by decide) ?_
      refine x_opp rfl rfl ?_
      refine a_iret rfl rfl rfl ?_
      exact hq
end MB
