/-! pairs: what stands in an entry -/
def stA (f : Nat → Int32) : Nat → Bool
  | 0 => true
  | i + 1 => stA f i && !(decide (f i ≤ 0))
theorem stA_iff (f : Nat → Int32) : ∀ n, stA f n = true ↔ ∀ i, i < n → ¬ f i ≤ 0
  | 0 => ⟨fun _ i h => absurd h (Nat.not_lt_zero i), fun _ => rfl⟩
  | n + 1 => by
    unfold stA
    rw [Bool.and_eq_true, stA_iff f n]
    constructor
    · intro h i hi
      by_cases e : i = n
      · subst e
        have := h.2
        intro g
        rw [decide_eq_true g] at this
        cases this
      · exact h.1 i (by omega)
    · intro h
      exact ⟨fun i hi => h i (by omega), by rw [decide_eq_false (h n (by omega))]; rfl⟩
theorem full_dec : ∀ N, N ≤ 7 → ∀ i, i < 13 → lt5 ((1 <<< ((5 * nI N).toInt64 &&& 63)) - 1) i = if i < N then 31 else 0 := by decide +kernel
theorem mk_all {f : Nat → Int32} {N : Nat} (h7 : N ≤ 7) : (mkF (stF f N) 7 = (1 <<< ((5 * nI N).toInt64 &&& 63)) - 1) ↔ ∀ i, i < N → sg5 (f i) ≠ 0 := by
  obtain ⟨-, k1⟩ := mkF_ok (stF f N) 7 (by omega)
  obtain ⟨-, k2⟩ := stF_ok f N h7
  constructor
  · intro e i hi
    have := k1 i
    rw [e, full_dec N h7 i (by omega), if_pos hi, k2 i, if_pos hi] at this
    intro z
    rw [if_neg (by intro q; exact q.2 z)] at this
    cases this
  · intro h
    refine lt5_ext (fun i hi => ?_)
    rw [k1 i, full_dec N h7 i hi, k2 i]
    by_cases q : i < N
    · rw [if_pos q, if_pos q, if_pos ⟨by omega, h i q⟩]
    · rw [if_neg q, if_neg q, if_neg (fun g => g.2 rfl)]
theorem sg_le {a : Nat} (h : a < 32) : nI a ≤ 0 ↔ a = 0 := by
  constructor
  · intro g
    by_cases z : a = 0
    · exact z
    · exact absurd g (nI_nle (by omega) (by omega))
  · intro g; subst g; decide
section STD
variable {L : Nat} {xs : Nat → Int32} {t d : Nat} {dy : List sh_T} {M : mm_T} {Q : Option Value → sm_W → Prop} {n G : Nat} {es : List eT}
theorem eOK_7 {e : eT} (h : eOK e) : e.2.2.1 ≤ 7 := by
  have := h.2.2
  split at this <;> omega
theorem c_std {k : Nat} (htb : tabIs M 8 9 10 11 12 es) (h42 : es.length ≤ 42) (hk : k < es.length) (ok : eOK (eAt es k)) (hG : G < 4) (hq : Q (some (.long (stF (fun i => M.1 (46 + 5 * G) (mPl (eAt es k) i)) (eAt es k).2.2.1))) (wm (sh0 ++ dy) M)) : sm_E L xs (d + 2) 84 [.ref 8, .int (nI k), .ref (46 + 5 * G)] (wm (sh0 ++ dy) M) Q := by
  have ce : ∀ i, i < (eAt es k).2.2.1 → tCell (M.1 9) (M.1 10) k (nI i) = nI (mPl (eAt es k) i) := fun i _ => (tCell_eq htb hk i).1
  refine c_standing (tsh_8 dy) (gsh_at dy G hG).2.1 (by omega) (tCell_eq htb hk 0).2 (eOK_7 ok) (fun i hi => ?_) ?_
  · rw [ce i hi]; exact vp_in_nI (mPl_lt ok hi) (by decide)
  · rw [stF_ext (g := fun i => M.1 (46 + 5 * G) (mPl (eAt es k) i)) (fun i hi => by
      have := mPl_lt ok hi
      try dsimp only
      rw [ce i hi, nI_clamp (by omega)])]
    exact hq
set_option maxRecDepth 4000 in
theorem l_stM {k : Nat} {e : eT} (hG : G < 4) (hms : msOK M) (ht : mTab M es) (h42 : es.length ≤ 42) (he : es[k]? = some e) (ok : eOK e) (hq : Q (some (.long (if stA (fun i => M.1 70 (49 * G + mPl e i)) e.2.2.1 = true then stF (fun i => M.1 70 (49 * G + mPl e i)) e.2.2.1 else 0))) (wm (sh0 ++ dy) M)) : sm_X L xs (d + 1) 190 7 (sm_code 190 7) [(0, .ref 65), (1, .int (nI G)), (2, .int (nI k)), (3, .long 0), (5, .int 1), (6, .int (nI 0))] [] (wm (sh0 ++ dy) M) Q := by
  have hk : k < es.length := (List.getElem?_eq_some_iff.mp he).1
  obtain ⟨-, -, -, t4, -⟩ := ht.2 k e he
  have h7 := eOK_7 ok
  generalize hf : (fun i => M.1 70 (49 * G + mPl e i)) = f at hq
  have fe : ∀ i, M.1 70 (49 * G + mPl e i) = f i := fun i => congrFun hf i
  refine loop_dn (P := fun i => sm_X L xs (d + 1) 190 7 (sm_code 190 7) [(0, .ref 65), (1, .int (nI G)), (2, .int (nI k)), (3, .long (stF f i)), (5, .int (zz (stA f i))), (6, .int (nI i))] [] (wm (sh0 ++ dy) M) Q) e.2.2.1 ?_ ?_
  · have g : nI e.2.2.1 ≤ nI e.2.2.1 := Int32.le_refl _
    cases hb : stA f e.2.2.1 with
    | true =>
      rw [hb, if_pos rfl] at hq
      refine x_opp rfl rfl ?_
      refine x_opp rfl rfl ?_
      refine m_getg (s_65 dy) rfl rfl rfl ?_
      refine x_opp rfl rfl ?_
      refine a_ialdN (s_94 dy) (k := k) rfl rfl rfl (by omega) (by decide) ?_
      rw [t4]
      refine a_icT rfl rfl br_ge (by first | exact g | exact nt_f g | exact tnf g | exact fnt g | exact Int32.not_lt.mp g | exact Int32.not_le.mp g | exact Int32.not_lt.mpr g | exact Int32.not_le.mpr g) ?_
      refine x_opp rfl rfl ?_
      refine a_ifF rfl rfl br_eqz (tnf rfl) ?_
      refine x_opp rfl rfl ?_
      refine x_go rfl ?_
      refine a_lret rfl rfl ?_
      exact hq
    | false =>
      rw [hb, if_neg (by decide)] at hq
      refine x_opp rfl rfl ?_
      refine x_opp rfl rfl ?_
      refine m_getg (s_65 dy) rfl rfl rfl ?_
      refine x_opp rfl rfl ?_
      refine a_ialdN (s_94 dy) (k := k) rfl rfl rfl (by omega) (by decide) ?_
      rw [t4]
      refine a_icT rfl rfl br_ge (by first | exact g | exact nt_f g | exact tnf g | exact fnt g | exact Int32.not_lt.mp g | exact Int32.not_le.mp g | exact Int32.not_lt.mpr g | exact Int32.not_le.mpr g) ?_
      refine x_opp rfl rfl ?_
      refine a_ifT rfl rfl br_eqz (by first | exact rfl | exact nt_f rfl | exact tnf rfl | exact fnt rfl | exact Int32.not_lt.mp rfl | exact Int32.not_le.mp rfl | exact Int32.not_lt.mpr rfl | exact Int32.not_le.mpr rfl) ?_
      refine x_opp rfl rfl ?_
      refine x_go rfl ?_
      refine a_lret rfl rfl ?_
      exact hq
  · intro i hi ih
    have g : ¬ nI e.2.2.1 ≤ nI i := nI_ge hi (by omega)
    have pl := mPl_lt ok hi
    obtain ⟨⟨m, hm, e70⟩, -⟩ := hms (49 * G + mPl e i) (by omega)
    rw [fe i] at e70
    have fi : f i = f i &&& 31 := by rw [e70, (n32_dec m hm).1]
    have es1 : stF f (i + 1) = stF f i ||| ((f i).toInt64 <<< ((5 * nI i).toInt64 &&& 63)) := by
      show stF f i ||| ((f i &&& 31).toInt64 <<< ((5 * nI i).toInt64 &&& 63)) = _
      rw [← fi]
    have ea : stA f (i + 1) = (stA f i && !(decide (f i ≤ 0))) := rfl
    rw [es1, ea] at ih
    cases hb : stA f i with
    | true =>
      rw [hb] at ih
      by_cases g2 : f i ≤ 0
      · rw [decide_eq_true g2] at ih
        refine x_opp rfl rfl ?_
        refine x_opp rfl rfl ?_
        refine m_getg (s_65 dy) rfl rfl rfl ?_
        refine x_opp rfl rfl ?_
        refine a_ialdN (s_94 dy) (k := k) rfl rfl rfl (by omega) (by decide) ?_
        rw [t4]
        refine a_icF rfl rfl br_ge (by first | exact g | exact nt_f g | exact tnf g | exact fnt g | exact Int32.not_lt.mp g | exact Int32.not_le.mp g | exact Int32.not_lt.mpr g | exact Int32.not_le.mpr g) ?_
        refine x_opp rfl rfl ?_
        refine m_getg (s_65 dy) rfl rfl rfl ?_
        refine x_kcg rfl ?_
        iterate 5 (refine x_opp rfl rfl ?_)
        refine a_callV (s_65 dy) rfl rfl rfl rfl (k_placeOf ht he (by omega) ?_)
        refine x_opp rfl rfl ?_
        rw [g49]
        refine a_ialdN (s_70 dy) (k := 49 * G + mPl e i) rfl rfl rfl (by omega) (by decide) ?_
        refine x_opp rfl rfl ?_
        refine x_opp rfl rfl ?_
        rw [fe i]
        refine a_ifF rfl rfl br_eqz (tnf rfl) ?_
        refine x_opp rfl rfl ?_
        refine a_ifT rfl rfl br_le (by first | exact g2 | exact nt_f g2 | exact tnf g2 | exact fnt g2 | exact Int32.not_lt.mp g2 | exact Int32.not_le.mp g2 | exact Int32.not_lt.mpr g2 | exact Int32.not_le.mpr g2) ?_
        refine x_kcg rfl ?_
        refine x_go rfl ?_
        iterate 4 (refine x_opp rfl rfl ?_)
        refine x_kcg rfl ?_
        iterate 5 (refine x_opp rfl rfl ?_)
        first | refine x_incg rfl rfl ?_ | refine x_opp rfl rfl ?_
        refine x_go rfl ?_
        refine x_lvs [(0, .ref 65), (1, .int (nI G)), (2, .int (nI k)), (3, .long (stF f i ||| ((f i).toInt64 <<< ((5 * nI i).toInt64 &&& 63)))), (5, .int 0), (6, .int (nI (i + 1)))] rfl rfl rfl ⟨rfl, rfl, rfl, rfl, rfl, rfl, trivial⟩ ?_
        exact ih
      · rw [decide_eq_false g2] at ih
        refine x_opp rfl rfl ?_
        refine x_opp rfl rfl ?_
        refine m_getg (s_65 dy) rfl rfl rfl ?_
        refine x_opp rfl rfl ?_
        refine a_ialdN (s_94 dy) (k := k) rfl rfl rfl (by omega) (by decide) ?_
        rw [t4]
        refine a_icF rfl rfl br_ge (by first | exact g | exact nt_f g | exact tnf g | exact fnt g | exact Int32.not_lt.mp g | exact Int32.not_le.mp g | exact Int32.not_lt.mpr g | exact Int32.not_le.mpr g) ?_
        refine x_opp rfl rfl ?_
        refine m_getg (s_65 dy) rfl rfl rfl ?_
        refine x_kcg rfl ?_
        iterate 5 (refine x_opp rfl rfl ?_)
        refine a_callV (s_65 dy) rfl rfl rfl rfl (k_placeOf ht he (by omega) ?_)
        refine x_opp rfl rfl ?_
        rw [g49]
        refine a_ialdN (s_70 dy) (k := 49 * G + mPl e i) rfl rfl rfl (by omega) (by decide) ?_
        refine x_opp rfl rfl ?_
        refine x_opp rfl rfl ?_
        rw [fe i]
        refine a_ifF rfl rfl br_eqz (tnf rfl) ?_
        refine x_opp rfl rfl ?_
        refine a_ifF rfl rfl br_le (by first | exact g2 | exact nt_f g2 | exact tnf g2 | exact fnt g2 | exact Int32.not_lt.mp g2 | exact Int32.not_le.mp g2 | exact Int32.not_lt.mpr g2 | exact Int32.not_le.mpr g2) ?_
        refine x_kcg rfl ?_
        refine x_go rfl ?_
        iterate 4 (refine x_opp rfl rfl ?_)
        refine x_kcg rfl ?_
        iterate 5 (refine x_opp rfl rfl ?_)
        first | refine x_incg rfl rfl ?_ | refine x_opp rfl rfl ?_
        refine x_go rfl ?_
        refine x_lvs [(0, .ref 65), (1, .int (nI G)), (2, .int (nI k)), (3, .long (stF f i ||| ((f i).toInt64 <<< ((5 * nI i).toInt64 &&& 63)))), (5, .int 1), (6, .int (nI (i + 1)))] rfl rfl rfl ⟨rfl, rfl, rfl, rfl, rfl, rfl, trivial⟩ ?_
        exact ih
    | false =>
      rw [hb] at ih
      refine x_opp rfl rfl ?_
      refine x_opp rfl rfl ?_
      refine m_getg (s_65 dy) rfl rfl rfl ?_
      refine x_opp rfl rfl ?_
      refine a_ialdN (s_94 dy) (k := k) rfl rfl rfl (by omega) (by decide) ?_
      rw [t4]
      refine a_icF rfl rfl br_ge (by first | exact g | exact nt_f g | exact tnf g | exact fnt g | exact Int32.not_lt.mp g | exact Int32.not_le.mp g | exact Int32.not_lt.mpr g | exact Int32.not_le.mpr g) ?_
      refine x_opp rfl rfl ?_
      refine m_getg (s_65 dy) rfl rfl rfl ?_
      refine x_kcg rfl ?_
      iterate 5 (refine x_opp rfl rfl ?_)
      refine a_callV (s_65 dy) rfl rfl rfl rfl (k_placeOf ht he (by omega) ?_)
      refine x_opp rfl rfl ?_
      rw [g49]
      refine a_ialdN (s_70 dy) (k := 49 * G + mPl e i) rfl rfl rfl (by omega) (by decide) ?_
      refine x_opp rfl rfl ?_
      refine x_opp rfl rfl ?_
      rw [fe i]
      refine a_ifT rfl rfl br_eqz (by first | exact rfl | exact nt_f rfl | exact tnf rfl | exact fnt rfl | exact Int32.not_lt.mp rfl | exact Int32.not_le.mp rfl | exact Int32.not_lt.mpr rfl | exact Int32.not_le.mpr rfl) ?_
      refine x_kcg rfl ?_
      refine x_go rfl ?_
      iterate 4 (refine x_opp rfl rfl ?_)
      refine x_kcg rfl ?_
      iterate 5 (refine x_opp rfl rfl ?_)
      first | refine x_incg rfl rfl ?_ | refine x_opp rfl rfl ?_
      refine x_go rfl ?_
      refine x_lvs [(0, .ref 65), (1, .int (nI G)), (2, .int (nI k)), (3, .long (stF f i ||| ((f i).toInt64 <<< ((5 * nI i).toInt64 &&& 63)))), (5, .int 0), (6, .int (nI (i + 1)))] rfl rfl rfl ⟨rfl, rfl, rfl, rfl, rfl, rfl, trivial⟩ ?_
      exact ih
set_option maxRecDepth 4000 in
theorem p_stands {g v : Int32} (h : rR t dy M) : pr L xs t dy M 83 190 [.int g, .int v] := by
  have hR := h; obtain ⟨s, E, P, w, n, hG, hN, hL, hS, hQ⟩ := h; have z0 : (0 : Int32) = 0 := rfl; have z1 : (0 : Int32) ≤ 0 := (by decide); have z11 : ¬ (1 : Int32) = 0 := (by decide); have z12 : ¬ (1 : Int32) ≤ 0 := (by decide); obtain ⟨M1, hM1⟩ : ∃ M1, m_setI M 1 5 0 = M1 := ⟨_, rfl⟩; have g1 : rG M1 n := hM1 ▸ rG_c hG; obtain ⟨M2, hM2⟩ : ∃ M2, m_setI M1 65 19 0 = M2 := ⟨_, rfl⟩; have g2 : rG M2 n := hM2 ▸ rG_z g1
  unfold pr; refine e_intro rfl rfl ?_
  by_cases hg : gRow 4 g = true
  · obtain ⟨G, hG4, rfl⟩ := gRow4 hg
    by_cases th : M1.1 66 G = 0
    · refine x_opp rfl rfl ?_
      refine m_getg (s_0 dy) rfl rfl rfl ?_
      refine a_callV (s_1 dy) rfl rfl rfl rfl (c_clear (s_1 dy) ?_)
      refine x_opp rfl rfl ?_
      refine a_callS rfl rfl rfl rfl (c_isGridNumber ?_)
      rw [hM1]
      refine a_ifF rfl rfl br_eqz (by first | exact hg | exact nt_f hg | exact tnf hg | exact fnt hg | exact Int32.not_lt.mp hg | exact Int32.not_le.mp hg | exact Int32.not_lt.mpr hg | exact Int32.not_le.mpr hg) ?_
      refine x_opp rfl rfl ?_
      refine x_opp rfl rfl ?_
      refine a_callV (s_0 dy) rfl rfl rfl rfl (c_look0 g1 hG4 th ?_)
      refine a_ifF rfl rfl br_ne (fun h => h rfl) ?_
      refine x_opp rfl rfl ?_
      refine a_lret rfl rfl ?_
      refine ⟨_, dy, _, rfl, rfl, ?_⟩; refine e_intro rfl rfl ?_
      refine x_opp rfl rfl ?_
      refine x_kcg rfl ?_
      refine a_putJ 19 (s_65 dy) rfl rfl rfl rfl ?_
      refine x_opp rfl rfl ?_
      refine a_callS rfl rfl rfl rfl (k_isGrid ?_)
      refine a_ifT rfl rfl br_nez (by first | exact hg | exact nt_f hg | exact tnf hg | exact fnt hg | exact Int32.not_lt.mp hg | exact Int32.not_le.mp hg | exact Int32.not_lt.mpr hg | exact Int32.not_le.mpr hg) ?_
      refine x_opp rfl rfl ?_
      refine m_getg (s_65 dy) rfl rfl rfl ?_
      refine x_opp rfl rfl ?_
      refine a_baldN (s_66 dy) (k := G) rfl rfl rfl (by omega) (by decide) ?_
      refine a_ifF rfl rfl br_ne (fun h => h th) ?_
      refine x_opp rfl rfl ?_
      refine x_kcg rfl ?_
      refine a_callV (s_65 dy) rfl rfl rfl rfl (k_metLong (vp_in_nI (n := 1) (by decide) (by decide)) ?_)
      refine a_lret rfl rfl ?_
      subst hM1
      exact ⟨rfl, _, rfl, R_fd (k := 1) (by decide) hR⟩
    · obtain ⟨o42, oks, -⟩ := gE_ok g1 hG4
      have hgr := g1.2.1 G hG4; obtain ⟨sg, sc, sl, ssp, sre, sne⟩ := gsh_at dy G hG4
      by_cases hv : gRow (nI (gE M1 G).length) v = true
      · obtain ⟨k, hk, rfl⟩ := gRow_m (by omega) hv
        have he := eAt_get hk
        have ok := oks _ (List.mem_of_getElem? he)
        have h7 := eOK_7 ok
        obtain ⟨B, hB⟩ : ∃ B, stA (fun i => M1.1 70 (49 * G + mPl (eAt (gE M1 G) k) i)) (eAt (gE M1 G) k).2.2.1 = B := ⟨_, rfl⟩
        have both : ∀ M3, tabIs M3 8 9 10 11 12 (gE M1 G) → rel M1 M3 → M3.2.2 7 G = some (45 + 5 * G) ∧ M3.1 11 k = nI (eAt (gE M1 G) k).2.2.1 ∧ stF (fun i => M3.1 (46 + 5 * G) (mPl (eAt (gE M1 G) k) i)) (eAt (gE M1 G) k).2.2.1 = stF (fun i => M1.1 70 (49 * G + mPl (eAt (gE M1 G) k) i)) (eAt (gE M1 G) k).2.2.1 ∧ ((mkF (stF (fun i => M3.1 (46 + 5 * G) (mPl (eAt (gE M1 G) k) i)) (eAt (gE M1 G) k).2.2.1) 7 = (1 <<< ((5 * nI (eAt (gE M1 G) k).2.2.1).toInt64 &&& 63)) - 1) ↔ B = true) := by
          intro M3 t3 r3
          have g3 := rG_rel r3 g1
          have c3 := (gE_ok g3 hG4).2.2
          rw [gE_rel r3] at c3
          have c4 : ∀ i, i < (eAt (gE M1 G) k).2.2.1 → M3.1 (46 + 5 * G) (mPl (eAt (gE M1 G) k) i) &&& 31 = M1.1 70 (49 * G + mPl (eAt (gE M1 G) k) i) := fun i hi => by
            rw [c3 _ (List.mem_of_getElem? he) i hi, r3.1 70 _ (by unfold irr; omega)]
          refine ⟨by rw [r3.2.2]; exact hgr, (t3.2 k _ he).2.2.1, stF_ext (fun i hi => ?_), ?_⟩
          · try dsimp only
            rw [c4 i hi]
            obtain ⟨⟨m, hm, e70⟩, -⟩ := g1.1 (49 * G + mPl (eAt (gE M1 G) k) i) (by have := mPl_lt ok hi; omega)
            rw [e70, (n32_dec m hm).1]
          · rw [mk_all h7, ← hB, stA_iff]
            constructor
            · intro q i hi
              have s5 := sg5_eq (M3.1 (46 + 5 * G) (mPl (eAt (gE M1 G) k) i))
              rw [c4 i hi] at s5
              rw [s5.1, sg_le s5.2]
              exact q i hi
            · intro q i hi
              have s5 := sg5_eq (M3.1 (46 + 5 * G) (mPl (eAt (gE M1 G) k) i))
              rw [c4 i hi] at s5
              have := q i hi
              rw [s5.1, sg_le s5.2] at this
              exact this
        have ref : ∀ M3, rel M1 M3 → ∀ w, w = (if B = true then stF (fun i => M1.1 70 (49 * G + mPl (eAt (gE M1 G) k) i)) (eAt (gE M1 G) k).2.2.1 else 0) → sm_E L xs 100 190 [.ref 65, .int (nI G), .int (nI k)] (wm (sh0 ++ dy) M3) (fun r wo => r = some (.long w) ∧ ∃ M2, wo = wm (sh0 ++ dy) M2 ∧ rR (t + 1) dy M2) := by
          intro M3 r3 w hw
          have e4 : gE (m_setI M3 65 19 0) G = gE M1 G := (gE_rel (rel_I r3 65 19 0) G).trans rfl
          have g3 : rG (m_setI M3 65 19 0) n := rG_z (rG_rel r3 g1)
          have th3 : ¬ (m_setI M3 65 19 0).1 66 G = 0 := by rw [mI_ne _ _ _ (by decide), r3.1 66 G (by unfold irr; omega)]; exact th
          refine e_intro rfl rfl ?_
          refine x_opp rfl rfl ?_
          refine x_kcg rfl ?_
          refine a_putJ 19 (s_65 dy) rfl rfl rfl rfl ?_
          refine x_opp rfl rfl ?_
          refine a_callS rfl rfl rfl rfl (k_isGrid ?_)
          refine a_ifT rfl rfl br_nez (by first | exact hg | exact nt_f hg | exact tnf hg | exact fnt hg | exact Int32.not_lt.mp hg | exact Int32.not_le.mp hg | exact Int32.not_lt.mpr hg | exact Int32.not_le.mpr hg) ?_
          refine x_opp rfl rfl ?_
          refine m_getg (s_65 dy) rfl rfl rfl ?_
          refine x_opp rfl rfl ?_
          refine a_baldN (s_66 dy) (k := G) rfl rfl rfl (by omega) (by decide) ?_
          refine a_ifT rfl rfl br_ne (by first | exact th3 | exact nt_f th3 | exact tnf th3 | exact fnt th3 | exact Int32.not_lt.mp th3 | exact Int32.not_le.mp th3 | exact Int32.not_lt.mpr th3 | exact Int32.not_le.mpr th3) ?_
          refine x_opp rfl rfl ?_
          refine x_opp rfl rfl ?_
          refine a_callV (s_65 dy) rfl rfl rfl rfl (k_ents g3 hG4 (fun M4 t4 r4 => ?_))
          refine x_opp rfl rfl ?_
          refine x_kcg rfl ?_
          refine x_opp rfl rfl ?_
          refine m_getg (s_65 dy) rfl rfl rfl ?_
          refine x_kcg rfl ?_
          refine x_opp rfl rfl ?_
          rw [e4] at t4; rw [t4.1]
          refine a_callS rfl rfl rfl rfl (k_inN (by omega) ?_)
          refine a_ifT rfl rfl br_nez (by first | exact hv | exact nt_f hv | exact tnf hv | exact fnt hv | exact Int32.not_lt.mp hv | exact Int32.not_le.mp hv | exact Int32.not_lt.mpr hv | exact Int32.not_le.mpr hv) ?_
          refine x_opp rfl rfl ?_
          refine x_opp rfl rfl ?_
          refine x_kcg rfl ?_
          refine x_opp rfl rfl ?_
          refine x_kcg rfl ?_
          refine x_opp rfl rfl ?_
          refine x_go rfl ?_
          refine x_lvs [(0, .ref 65), (1, .int (nI G)), (2, .int (nI k)), (3, .long 0), (5, .int 1), (6, .int (nI 0))] rfl rfl rfl ⟨rfl, rfl, rfl, rfl, rfl, rfl, trivial⟩ ?_
          have g4 := rG_rel r4 g3
          have e70 : M4.1 70 = M1.1 70 := by
            funext j
            rw [r4.1 70 j (by unfold irr; omega), mI_ne _ _ _ (by decide), r3.1 70 j (by unfold irr; omega)]
          refine l_stM hG4 g4.1 t4 o42 he ok ?_
          rw [e70, hB, ← hw]
          subst hM1
          exact ⟨rfl, _, rfl, R_2 hR r3 r4⟩
        by_cases b : B = true
        · refine x_opp rfl rfl ?_
          refine m_getg (s_0 dy) rfl rfl rfl ?_
          refine a_callV (s_1 dy) rfl rfl rfl rfl (c_clear (s_1 dy) ?_)
          refine x_opp rfl rfl ?_
          refine a_callS rfl rfl rfl rfl (c_isGridNumber ?_)
          rw [hM1]
          refine a_ifF rfl rfl br_eqz (by first | exact hg | exact nt_f hg | exact tnf hg | exact fnt hg | exact Int32.not_lt.mp hg | exact Int32.not_le.mp hg | exact Int32.not_lt.mpr hg | exact Int32.not_le.mpr hg) ?_
          refine x_opp rfl rfl ?_
          refine x_opp rfl rfl ?_
          refine a_callV (s_0 dy) rfl rfl rfl rfl (c_look1 g1 hG4 th (fun M3 t3 r3 => ?_))
          obtain ⟨gr3, l3, s3, m3⟩ := both M3 t3 r3
          refine a_ifT rfl rfl br_ne (by decide) ?_
          refine x_opp rfl rfl ?_
          refine m_getg (s_0 dy) rfl rfl rfl ?_
          refine x_opp rfl rfl ?_
          refine a_callV (s_8 dy) rfl rfl rfl rfl (c_has2 t3 ?_)
          refine a_ifT rfl rfl br_nez (by first | exact hv | exact nt_f hv | exact tnf hv | exact fnt hv | exact Int32.not_lt.mp hv | exact Int32.not_le.mp hv | exact Int32.not_lt.mpr hv | exact Int32.not_le.mpr hv) ?_
          refine x_opp rfl rfl ?_
          refine m_getg (s_0 dy) rfl rfl rfl ?_
          refine x_opp rfl rfl ?_
          refine x_opp rfl rfl ?_
          refine m_getg (s_0 dy) rfl rfl rfl ?_
          refine x_opp rfl rfl ?_
          refine a_gr hG4 rfl rfl gr3 ?_
          refine m_getg sg rfl rfl rfl ?_
          refine a_callV (s_8 dy) rfl rfl rfl rfl (c_std t3 o42 hk ok hG4 ?_)
          refine x_opp rfl rfl ?_
          refine x_opp rfl rfl ?_
          refine a_callS rfl rfl rfl rfl (c_maskOf ?_)
          refine x_opp rfl rfl ?_
          refine x_kcg rfl ?_
          refine x_opp rfl rfl ?_
          refine m_getg (s_0 dy) rfl rfl rfl ?_
          refine m_getg (s_8 dy) rfl rfl rfl ?_
          refine x_opp rfl rfl ?_
          refine a_ialdN (s_11 dy) (k := k) rfl rfl rfl (by omega) (by decide) ?_
          iterate 5 (refine x_opp rfl rfl ?_)
          rw [l3]
          refine a_ifF rfl rfl br_lne (fun h => h (m3.mpr b)) ?_
          refine x_kcg rfl ?_
          refine x_go rfl ?_
          refine x_opp rfl rfl ?_
          refine x_opp rfl rfl ?_
          refine a_ifF rfl rfl br_eq (by decide) ?_
          refine x_opp rfl rfl ?_
          refine x_go rfl ?_
          refine a_lret rfl rfl ?_
          refine ⟨_, dy, _, rfl, rfl, ?_⟩
          exact ref M3 r3 _ (by rw [if_pos b, s3])
        · refine x_opp rfl rfl ?_
          refine m_getg (s_0 dy) rfl rfl rfl ?_
          refine a_callV (s_1 dy) rfl rfl rfl rfl (c_clear (s_1 dy) ?_)
          refine x_opp rfl rfl ?_
          refine a_callS rfl rfl rfl rfl (c_isGridNumber ?_)
          rw [hM1]
          refine a_ifF rfl rfl br_eqz (by first | exact hg | exact nt_f hg | exact tnf hg | exact fnt hg | exact Int32.not_lt.mp hg | exact Int32.not_le.mp hg | exact Int32.not_lt.mpr hg | exact Int32.not_le.mpr hg) ?_
          refine x_opp rfl rfl ?_
          refine x_opp rfl rfl ?_
          refine a_callV (s_0 dy) rfl rfl rfl rfl (c_look1 g1 hG4 th (fun M3 t3 r3 => ?_))
          obtain ⟨gr3, l3, s3, m3⟩ := both M3 t3 r3
          refine a_ifT rfl rfl br_ne (by decide) ?_
          refine x_opp rfl rfl ?_
          refine m_getg (s_0 dy) rfl rfl rfl ?_
          refine x_opp rfl rfl ?_
          refine a_callV (s_8 dy) rfl rfl rfl rfl (c_has2 t3 ?_)
          refine a_ifT rfl rfl br_nez (by first | exact hv | exact nt_f hv | exact tnf hv | exact fnt hv | exact Int32.not_lt.mp hv | exact Int32.not_le.mp hv | exact Int32.not_lt.mpr hv | exact Int32.not_le.mpr hv) ?_
          refine x_opp rfl rfl ?_
          refine m_getg (s_0 dy) rfl rfl rfl ?_
          refine x_opp rfl rfl ?_
          refine x_opp rfl rfl ?_
          refine m_getg (s_0 dy) rfl rfl rfl ?_
          refine x_opp rfl rfl ?_
          refine a_gr hG4 rfl rfl gr3 ?_
          refine m_getg sg rfl rfl rfl ?_
          refine a_callV (s_8 dy) rfl rfl rfl rfl (c_std t3 o42 hk ok hG4 ?_)
          refine x_opp rfl rfl ?_
          refine x_opp rfl rfl ?_
          refine a_callS rfl rfl rfl rfl (c_maskOf ?_)
          refine x_opp rfl rfl ?_
          refine x_kcg rfl ?_
          refine x_opp rfl rfl ?_
          refine m_getg (s_0 dy) rfl rfl rfl ?_
          refine m_getg (s_8 dy) rfl rfl rfl ?_
          refine x_opp rfl rfl ?_
          refine a_ialdN (s_11 dy) (k := k) rfl rfl rfl (by omega) (by decide) ?_
          iterate 5 (refine x_opp rfl rfl ?_)
          rw [l3]
          refine a_ifT rfl rfl br_lne (fun h => b (m3.mp h)) ?_
          refine x_kcg rfl ?_
          refine x_go rfl ?_
          refine x_opp rfl rfl ?_
          refine x_opp rfl rfl ?_
          refine a_ifT rfl rfl br_eq (by decide) ?_
          refine x_opp rfl rfl ?_
          refine x_go rfl ?_
          refine a_lret rfl rfl ?_
          refine ⟨_, dy, _, rfl, rfl, ?_⟩
          exact ref M3 r3 _ (by rw [if_neg b]; rfl)
      · refine x_opp rfl rfl ?_
        refine m_getg (s_0 dy) rfl rfl rfl ?_
        refine a_callV (s_1 dy) rfl rfl rfl rfl (c_clear (s_1 dy) ?_)
        refine x_opp rfl rfl ?_
        refine a_callS rfl rfl rfl rfl (c_isGridNumber ?_)
        rw [hM1]
        refine a_ifF rfl rfl br_eqz (by first | exact hg | exact nt_f hg | exact tnf hg | exact fnt hg | exact Int32.not_lt.mp hg | exact Int32.not_le.mp hg | exact Int32.not_lt.mpr hg | exact Int32.not_le.mpr hg) ?_
        refine x_opp rfl rfl ?_
        refine x_opp rfl rfl ?_
        refine a_callV (s_0 dy) rfl rfl rfl rfl (c_look1 g1 hG4 th (fun M3 t3 r3 => ?_))
        refine a_ifT rfl rfl br_ne (by decide) ?_
        refine x_opp rfl rfl ?_
        refine m_getg (s_0 dy) rfl rfl rfl ?_
        refine x_opp rfl rfl ?_
        refine a_callV (s_8 dy) rfl rfl rfl rfl (c_has2 t3 ?_)
        refine a_ifF rfl rfl br_nez (by first | exact hv | exact nt_f hv | exact tnf hv | exact fnt hv | exact Int32.not_lt.mp hv | exact Int32.not_le.mp hv | exact Int32.not_lt.mpr hv | exact Int32.not_le.mpr hv) ?_
        refine x_opp rfl rfl ?_
        refine m_getg (s_0 dy) rfl rfl rfl ?_
        refine x_kcg rfl ?_
        refine a_callV (s_1 dy) rfl rfl rfl rfl (c_find (s_1 dy) (s_3 dy) (by decide) (vp_in_nI (n := 2) (by decide) (by decide)) ?_)
        refine x_opp rfl rfl ?_
        refine x_opp rfl rfl ?_
        refine a_lret rfl rfl ?_
        refine ⟨_, dy, _, rfl, rfl, ?_⟩; refine e_intro rfl rfl ?_
        have r3' : rel (nFind M1 1 3 (nI 2)) (nFind M3 1 3 (nI 2)) := rel_fd r3 2 (by decide)
        have g3 : rG (m_setI (nFind M3 1 3 (nI 2)) 65 19 0) n := rG_z (rG_rel r3' (rG_f g1))
        have e4 : gE (m_setI (nFind M3 1 3 2) 65 19 0) G = gE M1 G := (gE_rel (rel_I r3' 65 19 0) G).trans rfl
        have th3 : ¬ (m_setI (nFind M3 1 3 (nI 2)) 65 19 0).1 66 G = 0 := by rw [mI_ne _ _ _ (by decide), r3'.1 66 G (by unfold irr; omega)]; exact th
        refine x_opp rfl rfl ?_
        refine x_kcg rfl ?_
        refine a_putJ 19 (s_65 dy) rfl rfl rfl rfl ?_
        refine x_opp rfl rfl ?_
        refine a_callS rfl rfl rfl rfl (k_isGrid ?_)
        refine a_ifT rfl rfl br_nez (by first | exact hg | exact nt_f hg | exact tnf hg | exact fnt hg | exact Int32.not_lt.mp hg | exact Int32.not_le.mp hg | exact Int32.not_lt.mpr hg | exact Int32.not_le.mpr hg) ?_
        refine x_opp rfl rfl ?_
        refine m_getg (s_65 dy) rfl rfl rfl ?_
        refine x_opp rfl rfl ?_
        refine a_baldN (s_66 dy) (k := G) rfl rfl rfl (by omega) (by decide) ?_
        refine a_ifT rfl rfl br_ne (by first | exact th3 | exact nt_f th3 | exact tnf th3 | exact fnt th3 | exact Int32.not_lt.mp th3 | exact Int32.not_le.mp th3 | exact Int32.not_lt.mpr th3 | exact Int32.not_le.mpr th3) ?_
        refine x_opp rfl rfl ?_
        refine x_opp rfl rfl ?_
        refine a_callV (s_65 dy) rfl rfl rfl rfl (k_ents g3 hG4 (fun M4 t4 r4 => ?_))
        refine x_opp rfl rfl ?_
        refine x_kcg rfl ?_
        refine x_opp rfl rfl ?_
        refine m_getg (s_65 dy) rfl rfl rfl ?_
        refine x_kcg rfl ?_
        refine x_opp rfl rfl ?_
        rw [e4] at t4; rw [t4.1]
        refine a_callS rfl rfl rfl rfl (k_inN (by omega) ?_)
        refine a_ifF rfl rfl br_nez (by first | exact hv | exact nt_f hv | exact tnf hv | exact fnt hv | exact Int32.not_lt.mp hv | exact Int32.not_le.mp hv | exact Int32.not_lt.mpr hv | exact Int32.not_le.mpr hv) ?_
        refine x_opp rfl rfl ?_
        refine x_kcg rfl ?_
        refine a_callV (s_65 dy) rfl rfl rfl rfl (k_metLong (vp_in_nI (n := 2) (by decide) (by decide)) ?_)
        refine a_lret rfl rfl ?_
        subst hM1
        exact ⟨rfl, _, rfl, R_2f (k := 2) (by decide) hR r3 r4⟩
  · refine x_opp rfl rfl ?_
    refine m_getg (s_0 dy) rfl rfl rfl ?_
    refine a_callV (s_1 dy) rfl rfl rfl rfl (c_clear (s_1 dy) ?_)
    refine x_opp rfl rfl ?_
    refine a_callS rfl rfl rfl rfl (c_isGridNumber ?_)
    rw [hM1]
    refine a_ifT rfl rfl br_eqz (by first | exact hg | exact nt_f hg | exact tnf hg | exact fnt hg | exact Int32.not_lt.mp hg | exact Int32.not_le.mp hg | exact Int32.not_lt.mpr hg | exact Int32.not_le.mpr hg) ?_
    refine x_opp rfl rfl ?_
    refine a_lret rfl rfl ?_
    refine ⟨_, dy, _, rfl, rfl, ?_⟩; refine e_intro rfl rfl ?_
    refine x_opp rfl rfl ?_
    refine x_kcg rfl ?_
    refine a_putJ 19 (s_65 dy) rfl rfl rfl rfl ?_
    refine x_opp rfl rfl ?_
    refine a_callS rfl rfl rfl rfl (k_isGrid ?_)
    rw [hM2]
    refine a_ifF rfl rfl br_nez (by first | exact hg | exact nt_f hg | exact tnf hg | exact fnt hg | exact Int32.not_lt.mp hg | exact Int32.not_le.mp hg | exact Int32.not_lt.mpr hg | exact Int32.not_le.mpr hg) ?_
    refine x_opp rfl rfl ?_
    refine a_lret rfl rfl ?_
    subst hM2; subst hM1; exact ⟨rfl, _, rfl, R_cl hR⟩
end STD
