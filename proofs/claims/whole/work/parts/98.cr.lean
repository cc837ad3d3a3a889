/-! pairs: crossings, what stands -/
section CR
variable {L : Nat} {xs : Nat → Int32} {t d : Nat} {dy : List sh_T} {M : mm_T} {Q : Option Value → sm_W → Prop} {n G : Nat} {es : List eT}
theorem c_crs {a b : Nat} (htb : tabIs M 8 9 10 11 12 es) (h42 : es.length ≤ 42) (hoks : ∀ e, e ∈ es → eOK e) (ha : a < es.length) (hb : b < es.length) (hq : Q (some (.int (if a = b then -5 else crsI (eAt es a) (eAt es b) (eAt es a).2.2.1 0))) (wm (sh0 ++ dy) M)) : sm_E L xs (d + 2) 87 [.ref 8, .int (nI a), .int (nI b)] (wm (sh0 ++ dy) M) Q := c_crossing (tsh_8 dy) htb h42 hoks ha hb hq
set_option maxRecDepth 4000 in
theorem l_crM {a b : Nat} (ht : mTab M es) (h42 : es.length ≤ 42) (hoks : ∀ e, e ∈ es → eOK e) (ha : a < es.length) (hb : b < es.length) (hq : Q (some (.int (if a = b then -5 else crsI (eAt es a) (eAt es b) (eAt es a).2.2.1 0))) (wm (sh0 ++ dy) M)) : sm_X L xs (d + 1) 192 8 (sm_code 192 8) [(0, .ref 65), (2, .int (nI a)), (3, .int (nI b)), (4, .int (nI 0))] [] (wm (sh0 ++ dy) M) Q := by
  have hea := eAt_get ha
  have heb := eAt_get hb
  have hoa := hoks _ (List.mem_of_getElem? hea)
  have hob := hoks _ (List.mem_of_getElem? heb)
  have a7 : (eAt es a).2.2.1 ≤ 7 := by
    have := hoa.2.2
    split at this <;> omega
  have b7 : (eAt es b).2.2.1 ≤ 7 := by
    have := hob.2.2
    split at this <;> omega
  obtain ⟨-, -, -, ta, -⟩ := ht.2 a _ hea
  obtain ⟨-, -, -, tb, -⟩ := ht.2 b _ heb
  by_cases e : a = b
  · rw [if_pos e] at hq
    have e1 : nI a = nI b := by rw [e]
    refine x_opp rfl rfl ?_
    refine x_opp rfl rfl ?_
    refine a_icT rfl rfl br_eq (by first | exact e1 | exact nt_f e1 | exact tnf e1 | exact fnt e1 | exact Int32.not_lt.mp e1 | exact Int32.not_le.mp e1 | exact Int32.not_lt.mpr e1 | exact Int32.not_le.mpr e1) ?_
    refine x_kcg rfl ?_
    refine a_iret rfl rfl rfl ?_
    exact hq
  · rw [if_neg e] at hq
    have e1 : ¬ nI a = nI b := fun h => e ((nI_eq (by omega) (by omega)).mp h)
    have key : ∀ k i, i + k = (eAt es a).2.2.1 → Q (some (.int (crsI (eAt es a) (eAt es b) k i))) (wm (sh0 ++ dy) M) → sm_X L xs (d + 1) 192 8 (sm_code 192 8) [(0, .ref 65), (2, .int (nI a)), (3, .int (nI b)), (4, .int (nI i))] [] (wm (sh0 ++ dy) M) Q := by
      intro k
      induction k with
      | zero =>
        intro i hi hq
        have g : nI (eAt es a).2.2.1 ≤ nI i := nI_le (by omega) (by omega)
        refine x_opp rfl rfl ?_
        refine x_opp rfl rfl ?_
        refine a_icF rfl rfl br_eq (by first | exact e1 | exact nt_f e1 | exact tnf e1 | exact fnt e1 | exact Int32.not_lt.mp e1 | exact Int32.not_le.mp e1 | exact Int32.not_lt.mpr e1 | exact Int32.not_le.mpr e1) ?_
        refine x_opp rfl rfl ?_
        refine x_opp rfl rfl ?_
        refine m_getg (s_65 dy) rfl rfl rfl ?_
        refine x_opp rfl rfl ?_
        refine a_ialdN (s_94 dy) (k := a) rfl rfl rfl (by omega) (by decide) ?_
        rw [ta]
        refine a_icT rfl rfl br_ge (by first | exact g | exact nt_f g | exact tnf g | exact fnt g | exact Int32.not_lt.mp g | exact Int32.not_le.mp g | exact Int32.not_lt.mpr g | exact Int32.not_le.mpr g) ?_
        refine x_kcg rfl ?_
        refine a_iret rfl rfl rfl ?_
        exact hq
      | succ k ih =>
        intro i hi hq
        have g : ¬ nI (eAt es a).2.2.1 ≤ nI i := nI_ge (by omega) (by omega)
        have pa := mPl_lt hoa (show i < (eAt es a).2.2.1 by omega)
        have key2 : ∀ m j, j + m = (eAt es b).2.2.1 → (∀ j', fst1 (fun j => Nat.beq (mPl (eAt es a) i) (mPl (eAt es b) j)) m j = some j' → Q (some (.int (nI (8 * i + j')))) (wm (sh0 ++ dy) M)) → (fst1 (fun j => Nat.beq (mPl (eAt es a) i) (mPl (eAt es b) j)) m j = none → sm_X L xs (d + 1) 192 8 (sm_code 192 8) [(0, .ref 65), (2, .int (nI a)), (3, .int (nI b)), (4, .int (nI (i + 1)))] [] (wm (sh0 ++ dy) M) Q) → sm_X L xs (d + 1) 192 11 (sm_code 192 11) [(0, .ref 65), (2, .int (nI a)), (3, .int (nI b)), (4, .int (nI i)), (5, .int (nI j))] [] (wm (sh0 ++ dy) M) Q := by
          intro m
          induction m with
          | zero =>
            intro j hj q1 q2
            have fin := q2 rfl
            have g2 : nI (eAt es b).2.2.1 ≤ nI j := nI_le (by omega) (by omega)
            refine x_opp rfl rfl ?_
            refine x_opp rfl rfl ?_
            refine m_getg (s_65 dy) rfl rfl rfl ?_
            refine x_opp rfl rfl ?_
            refine a_ialdN (s_94 dy) (k := b) rfl rfl rfl (by omega) (by decide) ?_
            rw [tb]
            refine a_icT rfl rfl br_ge (by first | exact g2 | exact nt_f g2 | exact tnf g2 | exact fnt g2 | exact Int32.not_lt.mp g2 | exact Int32.not_le.mp g2 | exact Int32.not_lt.mpr g2 | exact Int32.not_le.mpr g2) ?_
            first | refine x_incg rfl rfl ?_ | refine x_opp rfl rfl ?_
            refine x_go rfl ?_
            refine x_lvs [(0, .ref 65), (2, .int (nI a)), (3, .int (nI b)), (4, .int (nI (i + 1)))] rfl rfl rfl ⟨rfl, rfl, rfl, rfl, trivial⟩ ?_
            exact fin
          | succ m ih2 =>
            intro j hj q1 q2
            have g2 : ¬ nI (eAt es b).2.2.1 ≤ nI j := nI_ge (by omega) (by omega)
            have pb := mPl_lt hob (show j < (eAt es b).2.2.1 by omega)
            unfold fst1 at q1 q2
            by_cases gp : mPl (eAt es a) i = mPl (eAt es b) j
            · rw [if_pos (beq_tt gp)] at q1
              have fin := q1 j rfl
              rw [← g8] at fin
              have gq : ¬ nI (mPl (eAt es a) i) ≠ nI (mPl (eAt es b) j) := fun h => h (by rw [gp])
              refine x_opp rfl rfl ?_
              refine x_opp rfl rfl ?_
              refine m_getg (s_65 dy) rfl rfl rfl ?_
              refine x_opp rfl rfl ?_
              refine a_ialdN (s_94 dy) (k := b) rfl rfl rfl (by omega) (by decide) ?_
              rw [tb]
              refine a_icF rfl rfl br_ge (by first | exact g2 | exact nt_f g2 | exact tnf g2 | exact fnt g2 | exact Int32.not_lt.mp g2 | exact Int32.not_le.mp g2 | exact Int32.not_lt.mpr g2 | exact Int32.not_le.mpr g2) ?_
              iterate 3 (refine x_opp rfl rfl ?_)
              refine a_callV (s_65 dy) rfl rfl rfl rfl (k_placeOf ht hea (by omega) ?_)
              iterate 3 (refine x_opp rfl rfl ?_)
              refine a_callV (s_65 dy) rfl rfl rfl rfl (k_placeOf ht heb (by omega) ?_)
              refine a_icF rfl rfl br_ne (by first | exact gq | exact nt_f gq | exact tnf gq | exact fnt gq | exact Int32.not_lt.mp gq | exact Int32.not_le.mp gq | exact Int32.not_lt.mpr gq | exact Int32.not_le.mpr gq) ?_
              refine x_kcg rfl ?_
              iterate 4 (refine x_opp rfl rfl ?_)
              refine a_iret rfl rfl rfl ?_
              exact fin
            · rw [if_neg (by rw [beq_f gp]; decide)] at q1 q2
              have fin := ih2 (j + 1) (by omega) q1 q2
              have gq : nI (mPl (eAt es a) i) ≠ nI (mPl (eAt es b) j) := fun e2 => gp ((nI_eq (by omega) (by omega)).mp e2)
              refine x_opp rfl rfl ?_
              refine x_opp rfl rfl ?_
              refine m_getg (s_65 dy) rfl rfl rfl ?_
              refine x_opp rfl rfl ?_
              refine a_ialdN (s_94 dy) (k := b) rfl rfl rfl (by omega) (by decide) ?_
              rw [tb]
              refine a_icF rfl rfl br_ge (by first | exact g2 | exact nt_f g2 | exact tnf g2 | exact fnt g2 | exact Int32.not_lt.mp g2 | exact Int32.not_le.mp g2 | exact Int32.not_lt.mpr g2 | exact Int32.not_le.mpr g2) ?_
              iterate 3 (refine x_opp rfl rfl ?_)
              refine a_callV (s_65 dy) rfl rfl rfl rfl (k_placeOf ht hea (by omega) ?_)
              iterate 3 (refine x_opp rfl rfl ?_)
              refine a_callV (s_65 dy) rfl rfl rfl rfl (k_placeOf ht heb (by omega) ?_)
              refine a_icT rfl rfl br_ne (by first | exact gq | exact nt_f gq | exact tnf gq | exact fnt gq | exact Int32.not_lt.mp gq | exact Int32.not_le.mp gq | exact Int32.not_lt.mpr gq | exact Int32.not_le.mpr gq) ?_
              first | refine x_incg rfl rfl ?_ | refine x_opp rfl rfl ?_
              refine x_go rfl ?_
              refine x_lvs [(0, .ref 65), (2, .int (nI a)), (3, .int (nI b)), (4, .int (nI i)), (5, .int (nI (j + 1)))] rfl rfl rfl ⟨rfl, rfl, rfl, rfl, rfl, trivial⟩ ?_
              exact fin
        have fin := key2 (eAt es b).2.2.1 0 (by omega) (fun j' h => by rw [crs_s h] at hq; exact hq) (fun h => ih (i + 1) (by omega) (by rw [crs_n h] at hq; exact hq))
        refine x_opp rfl rfl ?_
        refine x_opp rfl rfl ?_
        refine a_icF rfl rfl br_eq (by first | exact e1 | exact nt_f e1 | exact tnf e1 | exact fnt e1 | exact Int32.not_lt.mp e1 | exact Int32.not_le.mp e1 | exact Int32.not_lt.mpr e1 | exact Int32.not_le.mpr e1) ?_
        refine x_opp rfl rfl ?_
        refine x_opp rfl rfl ?_
        refine m_getg (s_65 dy) rfl rfl rfl ?_
        refine x_opp rfl rfl ?_
        refine a_ialdN (s_94 dy) (k := a) rfl rfl rfl (by omega) (by decide) ?_
        rw [ta]
        refine a_icF rfl rfl br_ge (by first | exact g | exact nt_f g | exact tnf g | exact fnt g | exact Int32.not_lt.mp g | exact Int32.not_le.mp g | exact Int32.not_lt.mpr g | exact Int32.not_le.mpr g) ?_
        refine x_kcg rfl ?_
        refine x_opp rfl rfl ?_
        refine x_go rfl ?_
        refine x_lvs [(0, .ref 65), (2, .int (nI a)), (3, .int (nI b)), (4, .int (nI i)), (5, .int (nI 0))] rfl rfl rfl ⟨rfl, rfl, rfl, rfl, rfl, trivial⟩ ?_
        exact fin
    exact key (eAt es a).2.2.1 0 (by omega) hq
set_option maxRecDepth 4000 in
theorem p_crossing {g u v : Int32} (h : rR t dy M) : pr L xs t dy M 86 192 [.int g, .int u, .int v] := by
  have hR := h; obtain ⟨s, E, P, w, n, hG, hN, hL, hS, hQ⟩ := h; have z0 : (0 : Int32) = 0 := rfl; have z1 : (0 : Int32) ≤ 0 := (by decide); have z11 : ¬ (1 : Int32) = 0 := (by decide); have z12 : ¬ (1 : Int32) ≤ 0 := (by decide); obtain ⟨M1, hM1⟩ : ∃ M1, m_setI M 1 5 0 = M1 := ⟨_, rfl⟩; have g1 : rG M1 n := hM1 ▸ rG_c hG; obtain ⟨M2, hM2⟩ : ∃ M2, m_setI M1 65 19 0 = M2 := ⟨_, rfl⟩; have g2 : rG M2 n := hM2 ▸ rG_z g1
  unfold pr; refine e_intro rfl rfl ?_
  by_cases hg : gRow 4 g = true
  · obtain ⟨G, hG4, rfl⟩ := gRow4 hg
    by_cases th : M1.1 66 G = 0
    · refine x_opp rfl rfl ?_
      refine m_getg (s_0 dy) rfl rfl rfl ?_
      refine a_callV (s_1 dy) rfl rfl rfl rfl (c_clear (s_1 dy) ?_)
      refine x_opp rfl rfl ?_
      refine a_callS rfl rfl rfl rfl (c_isGridNumber ?_)
      rw [hM1]
      refine a_ifT rfl rfl br_nez (by first | exact hg | exact nt_f hg | exact tnf hg | exact fnt hg | exact Int32.not_lt.mp hg | exact Int32.not_le.mp hg | exact Int32.not_lt.mpr hg | exact Int32.not_le.mpr hg) ?_
      refine x_opp rfl rfl ?_
      refine x_opp rfl rfl ?_
      refine a_callV (s_0 dy) rfl rfl rfl rfl (c_look0 g1 hG4 th ?_)
      refine a_ifF rfl rfl br_ne (fun h => h rfl) ?_
      refine x_opp rfl rfl ?_
      refine m_getg (s_0 dy) rfl rfl rfl ?_
      refine a_callV (s_1 dy) rfl rfl rfl rfl (c_answer (s_1 dy) ?_)
      refine a_iret rfl rfl rfl ?_
      refine ⟨_, dy, _, rfl, rfl, ?_⟩; refine e_intro rfl rfl ?_
      refine x_opp rfl rfl ?_
      refine x_kcg rfl ?_
      refine a_putJ 19 (s_65 dy) rfl rfl rfl rfl ?_
      refine x_opp rfl rfl ?_
      refine a_callS rfl rfl rfl rfl (k_isGrid ?_)
      refine a_ifT rfl rfl br_nez (by first | exact hg | exact nt_f hg | exact tnf hg | exact fnt hg | exact Int32.not_lt.mp hg | exact Int32.not_le.mp hg | exact Int32.not_lt.mpr hg | exact Int32.not_le.mpr hg) ?_
      refine x_opp rfl rfl ?_
      refine m_getg (s_65 dy) rfl rfl rfl ?_
      refine x_opp rfl rfl ?_
      refine a_baldN (s_66 dy) (k := G) rfl rfl rfl (by omega) (by decide) ?_
      refine a_ifF rfl rfl br_ne (fun h => h th) ?_
      refine x_opp rfl rfl ?_
      refine x_kcg rfl ?_
      refine a_callV (s_65 dy) rfl rfl rfl rfl (k_met (vp_in_nI (n := 1) (by decide) (by decide)) ?_)
      refine a_iret rfl rfl rfl ?_
      subst hM1
      exact ⟨rfl, _, rfl, R_fd (k := 1) (by decide) hR⟩
    · obtain ⟨o42, oks, -⟩ := gE_ok g1 hG4
      have bad : ∀ M3, rel M1 M3 → rG (m_setI (nFind M3 1 3 (nI 2)) 65 19 0) n ∧ gE (m_setI (nFind M3 1 3 2) 65 19 0) G = gE M1 G ∧ ¬ (m_setI (nFind M3 1 3 (nI 2)) 65 19 0).1 66 G = 0 := by
        intro M3 r3
        have r3' : rel (nFind M1 1 3 (nI 2)) (nFind M3 1 3 (nI 2)) := rel_fd r3 2 (by decide)
        exact ⟨rG_z (rG_rel r3' (rG_f g1)), (gE_rel (rel_I r3' 65 19 0) G).trans rfl, by rw [mI_ne _ _ _ (by decide), r3'.1 66 G (by unfold irr; omega)]; exact th⟩
      by_cases hu : gRow (nI (gE M1 G).length) u = true
      · by_cases hv : gRow (nI (gE M1 G).length) v = true
        · obtain ⟨a, ha, rfl⟩ := gRow_m (by omega) hu
          obtain ⟨b, hb, rfl⟩ := gRow_m (by omega) hv
          refine x_opp rfl rfl ?_
          refine m_getg (s_0 dy) rfl rfl rfl ?_
          refine a_callV (s_1 dy) rfl rfl rfl rfl (c_clear (s_1 dy) ?_)
          refine x_opp rfl rfl ?_
          refine a_callS rfl rfl rfl rfl (c_isGridNumber ?_)
          rw [hM1]
          refine a_ifT rfl rfl br_nez (by first | exact hg | exact nt_f hg | exact tnf hg | exact fnt hg | exact Int32.not_lt.mp hg | exact Int32.not_le.mp hg | exact Int32.not_lt.mpr hg | exact Int32.not_le.mpr hg) ?_
          refine x_opp rfl rfl ?_
          refine x_opp rfl rfl ?_
          refine a_callV (s_0 dy) rfl rfl rfl rfl (c_look1 g1 hG4 th (fun M3 t3 r3 => ?_))
          refine a_ifT rfl rfl br_ne (by decide) ?_
          refine x_opp rfl rfl ?_
          refine m_getg (s_0 dy) rfl rfl rfl ?_
          refine x_opp rfl rfl ?_
          refine a_callV (s_8 dy) rfl rfl rfl rfl (c_has2 t3 ?_)
          refine a_ifF rfl rfl br_eqz (by first | exact hu | exact nt_f hu | exact tnf hu | exact fnt hu | exact Int32.not_lt.mp hu | exact Int32.not_le.mp hu | exact Int32.not_lt.mpr hu | exact Int32.not_le.mpr hu) ?_
          refine x_opp rfl rfl ?_
          refine m_getg (s_0 dy) rfl rfl rfl ?_
          refine x_opp rfl rfl ?_
          refine a_callV (s_8 dy) rfl rfl rfl rfl (c_has2 t3 ?_)
          refine a_ifT rfl rfl br_nez (by first | exact hv | exact nt_f hv | exact tnf hv | exact fnt hv | exact Int32.not_lt.mp hv | exact Int32.not_le.mp hv | exact Int32.not_lt.mpr hv | exact Int32.not_le.mpr hv) ?_
          refine x_opp rfl rfl ?_
          refine m_getg (s_0 dy) rfl rfl rfl ?_
          refine x_opp rfl rfl ?_
          refine x_opp rfl rfl ?_
          refine a_callV (s_8 dy) rfl rfl rfl rfl (c_crs t3 o42 oks ha hb ?_)
          refine a_iret rfl rfl rfl ?_
          refine ⟨_, dy, _, rfl, rfl, ?_⟩; refine e_intro rfl rfl ?_
          have e4 : gE (m_setI M3 65 19 0) G = gE M1 G := (gE_rel (rel_I r3 65 19 0) G).trans rfl
          have g3 : rG (m_setI M3 65 19 0) n := rG_z (rG_rel r3 g1)
          have th3 : ¬ (m_setI M3 65 19 0).1 66 G = 0 := by rw [mI_ne _ _ _ (by decide), r3.1 66 G (by unfold irr; omega)]; exact th
          refine x_opp rfl rfl ?_
          refine x_kcg rfl ?_
          refine a_putJ 19 (s_65 dy) rfl rfl rfl rfl ?_
          refine x_opp rfl rfl ?_
          refine a_callS rfl rfl rfl rfl (k_isGrid ?_)
          refine a_ifT rfl rfl br_nez (by first | exact hg | exact nt_f hg | exact tnf hg | exact fnt hg | exact Int32.not_lt.mp hg | exact Int32.not_le.mp hg | exact Int32.not_lt.mpr hg | exact Int32.not_le.mpr hg) ?_
          refine x_opp rfl rfl ?_
          refine m_getg (s_65 dy) rfl rfl rfl ?_
          refine x_opp rfl rfl ?_
          refine a_baldN (s_66 dy) (k := G) rfl rfl rfl (by omega) (by decide) ?_
          refine a_ifT rfl rfl br_ne (by first | exact th3 | exact nt_f th3 | exact tnf th3 | exact fnt th3 | exact Int32.not_lt.mp th3 | exact Int32.not_le.mp th3 | exact Int32.not_lt.mpr th3 | exact Int32.not_le.mpr th3) ?_
          refine x_opp rfl rfl ?_
          refine x_opp rfl rfl ?_
          refine a_callV (s_65 dy) rfl rfl rfl rfl (k_ents g3 hG4 (fun M4 t4 r4 => ?_))
          refine x_opp rfl rfl ?_
          refine x_kcg rfl ?_
          refine x_opp rfl rfl ?_
          refine m_getg (s_65 dy) rfl rfl rfl ?_
          refine x_kcg rfl ?_
          refine x_opp rfl rfl ?_
          rw [e4] at t4; rw [t4.1]
          refine a_callS rfl rfl rfl rfl (k_inN (by omega) ?_)
          refine a_ifF rfl rfl br_eqz (by first | exact hu | exact nt_f hu | exact tnf hu | exact fnt hu | exact Int32.not_lt.mp hu | exact Int32.not_le.mp hu | exact Int32.not_lt.mpr hu | exact Int32.not_le.mpr hu) ?_
          refine x_opp rfl rfl ?_
          refine x_kcg rfl ?_
          refine x_opp rfl rfl ?_
          refine m_getg (s_65 dy) rfl rfl rfl ?_
          refine x_kcg rfl ?_
          refine x_opp rfl rfl ?_
          rw [t4.1]
          refine a_callS rfl rfl rfl rfl (k_inN (by omega) ?_)
          refine a_ifT rfl rfl br_nez (by first | exact hv | exact nt_f hv | exact tnf hv | exact fnt hv | exact Int32.not_lt.mp hv | exact Int32.not_le.mp hv | exact Int32.not_lt.mpr hv | exact Int32.not_le.mpr hv) ?_
          refine x_kcg rfl ?_
          refine x_opp rfl rfl ?_
          refine x_go rfl ?_
          refine x_lvs [(0, .ref 65), (2, .int (nI a)), (3, .int (nI b)), (4, .int (nI 0))] rfl rfl rfl ⟨rfl, rfl, rfl, rfl, trivial⟩ ?_
          refine l_crM t4 o42 oks ha hb ?_
          subst hM1
          exact ⟨rfl, _, rfl, R_2 hR r3 r4⟩
        · refine x_opp rfl rfl ?_
          refine m_getg (s_0 dy) rfl rfl rfl ?_
          refine a_callV (s_1 dy) rfl rfl rfl rfl (c_clear (s_1 dy) ?_)
          refine x_opp rfl rfl ?_
          refine a_callS rfl rfl rfl rfl (c_isGridNumber ?_)
          rw [hM1]
          refine a_ifT rfl rfl br_nez (by first | exact hg | exact nt_f hg | exact tnf hg | exact fnt hg | exact Int32.not_lt.mp hg | exact Int32.not_le.mp hg | exact Int32.not_lt.mpr hg | exact Int32.not_le.mpr hg) ?_
          refine x_opp rfl rfl ?_
          refine x_opp rfl rfl ?_
          refine a_callV (s_0 dy) rfl rfl rfl rfl (c_look1 g1 hG4 th (fun M3 t3 r3 => ?_))
          refine a_ifT rfl rfl br_ne (by decide) ?_
          refine x_opp rfl rfl ?_
          refine m_getg (s_0 dy) rfl rfl rfl ?_
          refine x_opp rfl rfl ?_
          refine a_callV (s_8 dy) rfl rfl rfl rfl (c_has2 t3 ?_)
          refine a_ifF rfl rfl br_eqz (by first | exact hu | exact nt_f hu | exact tnf hu | exact fnt hu | exact Int32.not_lt.mp hu | exact Int32.not_le.mp hu | exact Int32.not_lt.mpr hu | exact Int32.not_le.mpr hu) ?_
          refine x_opp rfl rfl ?_
          refine m_getg (s_0 dy) rfl rfl rfl ?_
          refine x_opp rfl rfl ?_
          refine a_callV (s_8 dy) rfl rfl rfl rfl (c_has2 t3 ?_)
          refine a_ifF rfl rfl br_nez (by first | exact hv | exact nt_f hv | exact tnf hv | exact fnt hv | exact Int32.not_lt.mp hv | exact Int32.not_le.mp hv | exact Int32.not_lt.mpr hv | exact Int32.not_le.mpr hv) ?_
          refine x_opp rfl rfl ?_
          refine m_getg (s_0 dy) rfl rfl rfl ?_
          refine x_kcg rfl ?_
          refine a_callV (s_1 dy) rfl rfl rfl rfl (c_find (s_1 dy) (s_3 dy) (by decide) (vp_in_nI (n := 2) (by decide) (by decide)) ?_)
          refine a_iret rfl rfl rfl ?_
          refine ⟨_, dy, _, rfl, rfl, ?_⟩; refine e_intro rfl rfl ?_
          obtain ⟨g3, e4, th3⟩ := bad M3 r3
          refine x_opp rfl rfl ?_
          refine x_kcg rfl ?_
          refine a_putJ 19 (s_65 dy) rfl rfl rfl rfl ?_
          refine x_opp rfl rfl ?_
          refine a_callS rfl rfl rfl rfl (k_isGrid ?_)
          refine a_ifT rfl rfl br_nez (by first | exact hg | exact nt_f hg | exact tnf hg | exact fnt hg | exact Int32.not_lt.mp hg | exact Int32.not_le.mp hg | exact Int32.not_lt.mpr hg | exact Int32.not_le.mpr hg) ?_
          refine x_opp rfl rfl ?_
          refine m_getg (s_65 dy) rfl rfl rfl ?_
          refine x_opp rfl rfl ?_
          refine a_baldN (s_66 dy) (k := G) rfl rfl rfl (by omega) (by decide) ?_
          refine a_ifT rfl rfl br_ne (by first | exact th3 | exact nt_f th3 | exact tnf th3 | exact fnt th3 | exact Int32.not_lt.mp th3 | exact Int32.not_le.mp th3 | exact Int32.not_lt.mpr th3 | exact Int32.not_le.mpr th3) ?_
          refine x_opp rfl rfl ?_
          refine x_opp rfl rfl ?_
          refine a_callV (s_65 dy) rfl rfl rfl rfl (k_ents g3 hG4 (fun M4 t4 r4 => ?_))
          refine x_opp rfl rfl ?_
          refine x_kcg rfl ?_
          refine x_opp rfl rfl ?_
          refine m_getg (s_65 dy) rfl rfl rfl ?_
          refine x_kcg rfl ?_
          refine x_opp rfl rfl ?_
          rw [e4] at t4; rw [t4.1]
          refine a_callS rfl rfl rfl rfl (k_inN (by omega) ?_)
          refine a_ifF rfl rfl br_eqz (by first | exact hu | exact nt_f hu | exact tnf hu | exact fnt hu | exact Int32.not_lt.mp hu | exact Int32.not_le.mp hu | exact Int32.not_lt.mpr hu | exact Int32.not_le.mpr hu) ?_
          refine x_opp rfl rfl ?_
          refine x_kcg rfl ?_
          refine x_opp rfl rfl ?_
          refine m_getg (s_65 dy) rfl rfl rfl ?_
          refine x_kcg rfl ?_
          refine x_opp rfl rfl ?_
          rw [t4.1]
          refine a_callS rfl rfl rfl rfl (k_inN (by omega) ?_)
          refine a_ifF rfl rfl br_nez (by first | exact hv | exact nt_f hv | exact tnf hv | exact fnt hv | exact Int32.not_lt.mp hv | exact Int32.not_le.mp hv | exact Int32.not_lt.mpr hv | exact Int32.not_le.mpr hv) ?_
          refine x_opp rfl rfl ?_
          refine x_kcg rfl ?_
          refine a_callV (s_65 dy) rfl rfl rfl rfl (k_met (vp_in_nI (n := 2) (by decide) (by decide)) ?_)
          refine a_iret rfl rfl rfl ?_
          subst hM1
          exact ⟨rfl, _, rfl, R_2f (k := 2) (by decide) hR r3 r4⟩
      · refine x_opp rfl rfl ?_
        refine m_getg (s_0 dy) rfl rfl rfl ?_
        refine a_callV (s_1 dy) rfl rfl rfl rfl (c_clear (s_1 dy) ?_)
        refine x_opp rfl rfl ?_
        refine a_callS rfl rfl rfl rfl (c_isGridNumber ?_)
        rw [hM1]
        refine a_ifT rfl rfl br_nez (by first | exact hg | exact nt_f hg | exact tnf hg | exact fnt hg | exact Int32.not_lt.mp hg | exact Int32.not_le.mp hg | exact Int32.not_lt.mpr hg | exact Int32.not_le.mpr hg) ?_
        refine x_opp rfl rfl ?_
        refine x_opp rfl rfl ?_
        refine a_callV (s_0 dy) rfl rfl rfl rfl (c_look1 g1 hG4 th (fun M3 t3 r3 => ?_))
        refine a_ifT rfl rfl br_ne (by decide) ?_
        refine x_opp rfl rfl ?_
        refine m_getg (s_0 dy) rfl rfl rfl ?_
        refine x_opp rfl rfl ?_
        refine a_callV (s_8 dy) rfl rfl rfl rfl (c_has2 t3 ?_)
        refine a_ifT rfl rfl br_eqz (by first | exact hu | exact nt_f hu | exact tnf hu | exact fnt hu | exact Int32.not_lt.mp hu | exact Int32.not_le.mp hu | exact Int32.not_lt.mpr hu | exact Int32.not_le.mpr hu) ?_
        refine x_opp rfl rfl ?_
        refine m_getg (s_0 dy) rfl rfl rfl ?_
        refine x_kcg rfl ?_
        refine a_callV (s_1 dy) rfl rfl rfl rfl (c_find (s_1 dy) (s_3 dy) (by decide) (vp_in_nI (n := 2) (by decide) (by decide)) ?_)
        refine a_iret rfl rfl rfl ?_
        refine ⟨_, dy, _, rfl, rfl, ?_⟩; refine e_intro rfl rfl ?_
        obtain ⟨g3, e4, th3⟩ := bad M3 r3
        refine x_opp rfl rfl ?_
        refine x_kcg rfl ?_
        refine a_putJ 19 (s_65 dy) rfl rfl rfl rfl ?_
        refine x_opp rfl rfl ?_
        refine a_callS rfl rfl rfl rfl (k_isGrid ?_)
        refine a_ifT rfl rfl br_nez (by first | exact hg | exact nt_f hg | exact tnf hg | exact fnt hg | exact Int32.not_lt.mp hg | exact Int32.not_le.mp hg | exact Int32.not_lt.mpr hg | exact Int32.not_le.mpr hg) ?_
        refine x_opp rfl rfl ?_
        refine m_getg (s_65 dy) rfl rfl rfl ?_
        refine x_opp rfl rfl ?_
        refine a_baldN (s_66 dy) (k := G) rfl rfl rfl (by omega) (by decide) ?_
        refine a_ifT rfl rfl br_ne (by first | exact th3 | exact nt_f th3 | exact tnf th3 | exact fnt th3 | exact Int32.not_lt.mp th3 | exact Int32.not_le.mp th3 | exact Int32.not_lt.mpr th3 | exact Int32.not_le.mpr th3) ?_
        refine x_opp rfl rfl ?_
        refine x_opp rfl rfl ?_
        refine a_callV (s_65 dy) rfl rfl rfl rfl (k_ents g3 hG4 (fun M4 t4 r4 => ?_))
        refine x_opp rfl rfl ?_
        refine x_kcg rfl ?_
        refine x_opp rfl rfl ?_
        refine m_getg (s_65 dy) rfl rfl rfl ?_
        refine x_kcg rfl ?_
        refine x_opp rfl rfl ?_
        rw [e4] at t4; rw [t4.1]
        refine a_callS rfl rfl rfl rfl (k_inN (by omega) ?_)
        refine a_ifT rfl rfl br_eqz (by first | exact hu | exact nt_f hu | exact tnf hu | exact fnt hu | exact Int32.not_lt.mp hu | exact Int32.not_le.mp hu | exact Int32.not_lt.mpr hu | exact Int32.not_le.mpr hu) ?_
        refine x_opp rfl rfl ?_
        refine x_kcg rfl ?_
        refine a_callV (s_65 dy) rfl rfl rfl rfl (k_met (vp_in_nI (n := 2) (by decide) (by decide)) ?_)
        refine a_iret rfl rfl rfl ?_
        subst hM1
        exact ⟨rfl, _, rfl, R_2f (k := 2) (by decide) hR r3 r4⟩
  · refine x_opp rfl rfl ?_
    refine m_getg (s_0 dy) rfl rfl rfl ?_
    refine a_callV (s_1 dy) rfl rfl rfl rfl (c_clear (s_1 dy) ?_)
    refine x_opp rfl rfl ?_
    refine a_callS rfl rfl rfl rfl (c_isGridNumber ?_)
    rw [hM1]
    refine a_ifF rfl rfl br_nez (by first | exact hg | exact nt_f hg | exact tnf hg | exact fnt hg | exact Int32.not_lt.mp hg | exact Int32.not_le.mp hg | exact Int32.not_lt.mpr hg | exact Int32.not_le.mpr hg) ?_
    refine x_kcg rfl ?_
    refine a_iret rfl rfl rfl ?_
    refine ⟨_, dy, _, rfl, rfl, ?_⟩; refine e_intro rfl rfl ?_
    refine x_opp rfl rfl ?_
    refine x_kcg rfl ?_
    refine a_putJ 19 (s_65 dy) rfl rfl rfl rfl ?_
    refine x_opp rfl rfl ?_
    refine a_callS rfl rfl rfl rfl (k_isGrid ?_)
    rw [hM2]
    refine a_ifF rfl rfl br_nez (by first | exact hg | exact nt_f hg | exact tnf hg | exact fnt hg | exact Int32.not_lt.mp hg | exact Int32.not_le.mp hg | exact Int32.not_lt.mpr hg | exact Int32.not_le.mpr hg) ?_
    refine x_kcg rfl ?_
    refine a_iret rfl rfl rfl ?_
    subst hM2; subst hM1; exact ⟨rfl, _, rfl, R_cl hR⟩
end CR
