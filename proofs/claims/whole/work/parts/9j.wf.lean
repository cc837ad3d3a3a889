/-! pairs: word -/
section WF
variable {L : Nat} {xs : Nat → Int32} {t d : Nat} {dy : List sh_T} {M : mm_T} {Q : Option Value → sm_W → Prop} {n G : Nat}
set_option maxRecDepth 4000 in
theorem p_word {v e : Int32} {o : Int64} (h : rR t dy M) : pr L xs t dy M 42 168 [.int v, .long o, .int e] := by
  have hR := h; obtain ⟨s, E, P, w, n, hG, hN, hL, hS, hQ⟩ := h; have z0 : (0 : Int32) = 0 := rfl; have z1 : (0 : Int32) ≤ 0 := (by decide); have z11 : ¬ (1 : Int32) = 0 := (by decide); have z12 : ¬ (1 : Int32) ≤ 0 := (by decide); obtain ⟨M1, hM1⟩ : ∃ M1, m_setI M 1 5 0 = M1 := ⟨_, rfl⟩; have g1 : rG M1 n := hM1 ▸ rG_c hG; obtain ⟨M2, hM2⟩ : ∃ M2, m_setI M1 65 19 0 = M2 := ⟨_, rfl⟩; have g2 : rG M2 n := hM2 ▸ rG_z g1
  have hn16 : n ≤ 16 := hL.1.1
  have hn2 : M.1 65 9 = nI n := hL.2.2.2.1
  have c43 : M1.1 4 3 = nI n := by subst hM1; exact hL.2.1.1
  have k42 : M2.1 65 9 = nI n := by subst hM2; subst hM1; exact hn2
  unfold pr; refine e_intro rfl rfl ?_
  by_cases hv : gRow (nI n) v = true
  · obtain ⟨l, hl, rfl⟩ := gRow_nn hn16 hv
    by_cases hw : decide (lenU o 26 ≠ 0) = true
    · by_cases he : inR e (-100) 100 = true
      · have e0 : ¬ e < -100 := fun h => by unfold inR at he; rw [if_pos h] at he; cases he
        have e1 : e ≤ 100 := by
          unfold inR at he
          rw [if_neg e0] at he
          by_cases q : (100 : Int32) < e
          · rw [if_pos q] at he; cases he
          · exact Int32.not_lt.mp q
        have hE := hL.1
        have hs1 : cLs (sh0 ++ dy) M1 E P n := by subst hM1; exact (rL_fr (M' := m_setI M 1 5 0) hL (fun a i h => by repeat (first | rw [mI_at, if_neg (by omega)] | rw [mA_at, if_neg (by omega)] | rw [mL_1] | rw [mR_1])) (fun _ _ => rfl) rfl).2.1
        obtain ⟨q1, -, -, -, q5, q6, -, -⟩ := hL.2.2.1 l hl
        cases hd : lDr (E l) with
        | true =>
          obtain ⟨MF, hMF⟩ : ∃ MF, m_setI (nFind M1 1 3 (nI 1)) 65 19 0 = MF := ⟨_, rfl⟩
          have kF : MF.1 65 9 = nI n := by rw [← hMF]; subst hM1; exact hn2
          have dF : ¬ MF.1 80 l = 0 := by
            have : MF.1 80 l = M.1 80 l := by rw [← hMF]; subst hM1; rfl
            rw [this]; exact zz_n0 q5 hd
          refine x_opp rfl rfl ?_
          refine m_getg (s_0 dy) rfl rfl rfl ?_
          refine a_callV (s_1 dy) rfl rfl rfl rfl (c_clear (s_1 dy) ?_)
          refine x_opp rfl rfl ?_
          refine m_getg (s_0 dy) rfl rfl rfl ?_
          refine x_opp rfl rfl ?_
          rw [hM1]
          refine a_callV (s_4 dy) rfl rfl rfl rfl (c_made c43 ?_)
          refine a_ifF rfl rfl br_eqz (by first | exact hv | exact nt_f hv | exact tnf hv | exact fnt hv | exact Int32.not_lt.mp hv | exact Int32.not_le.mp hv | exact Int32.not_lt.mpr hv | exact Int32.not_le.mpr hv) ?_
          refine x_opp rfl rfl ?_
          refine a_callS rfl rfl rfl rfl (c_isWord ?_)
          refine a_ifF rfl rfl br_eqz (by first | exact hw | exact nt_f hw | exact tnf hw | exact fnt hw | exact Int32.not_lt.mp hw | exact Int32.not_le.mp hw | exact Int32.not_lt.mpr hw | exact Int32.not_le.mpr hw) ?_
          refine x_opp rfl rfl ?_
          refine x_kcg rfl ?_
          refine a_icF rfl rfl br_lt (by first | exact e0 | exact nt_f e0 | exact tnf e0 | exact fnt e0 | exact Int32.not_lt.mp e0 | exact Int32.not_le.mp e0 | exact Int32.not_lt.mpr e0 | exact Int32.not_le.mpr e0) ?_
          refine x_opp rfl rfl ?_
          refine x_kcg rfl ?_
          refine a_icT rfl rfl br_le (by first | exact e1 | exact nt_f e1 | exact tnf e1 | exact fnt e1 | exact Int32.not_lt.mp e1 | exact Int32.not_le.mp e1 | exact Int32.not_lt.mpr e1 | exact Int32.not_le.mpr e1) ?_
          refine x_opp rfl rfl ?_
          refine m_getg (s_0 dy) rfl rfl rfl ?_
          refine x_opp rfl rfl ?_
          refine a_callV (s_4 dy) rfl rfl rfl rfl (c_wantN hE hl hs1 hd ?_)
          refine x_opp rfl rfl ?_
          refine x_opp rfl rfl ?_
          refine x_ifnonN ?_
          refine x_opp rfl rfl ?_
          refine m_getg (s_0 dy) rfl rfl rfl ?_
          refine a_callV (s_1 dy) rfl rfl rfl rfl (c_answer (s_1 dy) ?_)
          refine a_iret rfl rfl rfl ?_
          refine ⟨_, dy, _, rfl, rfl, ?_⟩; refine e_intro rfl rfl ?_
          refine x_opp rfl rfl ?_
          refine x_kcg rfl ?_
          refine a_putJ 19 (s_65 dy) rfl rfl rfl rfl ?_
          refine x_opp rfl rfl ?_
          refine x_opp rfl rfl ?_
          rw [hMF]
          refine a_callV (s_65 dy) rfl rfl rfl rfl (k_made hn16 kF ?_)
          refine a_ifF rfl rfl br_eqz (by first | exact hv | exact nt_f hv | exact tnf hv | exact fnt hv | exact Int32.not_lt.mp hv | exact Int32.not_le.mp hv | exact Int32.not_lt.mpr hv | exact Int32.not_le.mpr hv) ?_
          refine x_opp rfl rfl ?_
          refine x_kcg rfl ?_
          refine a_callS rfl rfl rfl rfl (k_isWord (t := 26) (by decide) ?_)
          refine a_ifF rfl rfl br_eqz (by first | exact hw | exact nt_f hw | exact tnf hw | exact fnt hw | exact Int32.not_lt.mp hw | exact Int32.not_le.mp hw | exact Int32.not_lt.mpr hw | exact Int32.not_le.mpr hw) ?_
          refine x_opp rfl rfl ?_
          refine x_kcg rfl ?_
          refine x_kcg rfl ?_
          refine a_callS rfl rfl rfl rfl (k_in ?_)
          refine a_ifT rfl rfl br_nez (by first | exact he | exact nt_f he | exact tnf he | exact fnt he | exact Int32.not_lt.mp he | exact Int32.not_le.mp he | exact Int32.not_lt.mpr he | exact Int32.not_le.mpr he) ?_
          refine x_opp rfl rfl ?_
          refine m_getg (s_65 dy) rfl rfl rfl ?_
          refine x_opp rfl rfl ?_
          refine a_baldN (s_80 dy) (k := l) rfl rfl rfl (by omega) (by decide) ?_
          refine a_ifT rfl rfl br_ne (by first | exact dF | exact nt_f dF | exact tnf dF | exact fnt dF | exact Int32.not_lt.mp dF | exact Int32.not_le.mp dF | exact Int32.not_lt.mpr dF | exact Int32.not_le.mpr dF) ?_
          refine x_opp rfl rfl ?_
          refine x_opp rfl rfl ?_
          refine m_getg (s_65 dy) rfl rfl rfl ?_
          refine x_opp rfl rfl ?_
          refine a_baldN (s_80 dy) (k := l) rfl rfl rfl (by omega) (by decide) ?_
          refine a_ifF rfl rfl br_eq (by first | exact dF | exact nt_f dF | exact tnf dF | exact fnt dF | exact Int32.not_lt.mp dF | exact Int32.not_le.mp dF | exact Int32.not_lt.mpr dF | exact Int32.not_le.mpr dF) ?_
          refine x_kcg rfl ?_
          refine x_go rfl ?_
          refine a_callV (s_65 dy) rfl rfl rfl rfl (k_met (vp_in_nI (n := 1) (by decide) (by decide)) ?_)
          refine a_iret rfl rfl rfl ?_
          subst hMF; subst hM1
          exact ⟨rfl, _, rfl, R_fd (k := 1) (by decide) hR⟩
        | false =>
          by_cases hk : lK (E l) < 3
          · obtain ⟨s0, hsh, hio⟩ := cSh_t (hs1.2 l hl).2.1 hk
            have hk2 : nI (lK (E l)) ≤ 2 := nI_le (b := 2) (by omega) (by decide)
            have o5 : lMy (E l) ≤ 40 := (hE.2 l hl).2.2.2.2.1
            obtain ⟨m26, hm26⟩ := lenU_ne (t := 26) (by decide) (of_decide_eq_true hw)
            refine x_opp rfl rfl ?_
            refine m_getg (s_0 dy) rfl rfl rfl ?_
            refine a_callV (s_1 dy) rfl rfl rfl rfl (c_clear (s_1 dy) ?_)
            refine x_opp rfl rfl ?_
            refine m_getg (s_0 dy) rfl rfl rfl ?_
            refine x_opp rfl rfl ?_
            rw [hM1]
            refine a_callV (s_4 dy) rfl rfl rfl rfl (c_made c43 ?_)
            refine a_ifF rfl rfl br_eqz (by first | exact hv | exact nt_f hv | exact tnf hv | exact fnt hv | exact Int32.not_lt.mp hv | exact Int32.not_le.mp hv | exact Int32.not_lt.mpr hv | exact Int32.not_le.mpr hv) ?_
            refine x_opp rfl rfl ?_
            refine a_callS rfl rfl rfl rfl (c_isWord ?_)
            refine a_ifF rfl rfl br_eqz (by first | exact hw | exact nt_f hw | exact tnf hw | exact fnt hw | exact Int32.not_lt.mp hw | exact Int32.not_le.mp hw | exact Int32.not_lt.mpr hw | exact Int32.not_le.mpr hw) ?_
            refine x_opp rfl rfl ?_
            refine x_kcg rfl ?_
            refine a_icF rfl rfl br_lt (by first | exact e0 | exact nt_f e0 | exact tnf e0 | exact fnt e0 | exact Int32.not_lt.mp e0 | exact Int32.not_le.mp e0 | exact Int32.not_lt.mpr e0 | exact Int32.not_le.mpr e0) ?_
            refine x_opp rfl rfl ?_
            refine x_kcg rfl ?_
            refine a_icT rfl rfl br_le (by first | exact e1 | exact nt_f e1 | exact tnf e1 | exact fnt e1 | exact Int32.not_lt.mp e1 | exact Int32.not_le.mp e1 | exact Int32.not_lt.mpr e1 | exact Int32.not_le.mpr e1) ?_
            refine x_opp rfl rfl ?_
            refine m_getg (s_0 dy) rfl rfl rfl ?_
            refine x_opp rfl rfl ?_
            refine a_callV (s_4 dy) rfl rfl rfl rfl (c_wantR hE hl hs1 hd ?_)
            refine x_opp rfl rfl ?_
            refine x_opp rfl rfl ?_
            refine x_ifnonR ?_
            refine x_opp rfl rfl ?_
            refine m_inst hsh (hio _ _ _).1 ?_
            refine a_ifF rfl rfl br_eq (by decide) ?_
            refine x_opp rfl rfl ?_
            refine m_cast hsh (hio _ _ _).2.1 ?_
            iterate 4 (refine x_opp rfl rfl ?_)
            refine a_callV hsh rfl (hio _ _ _).2.2.1 rfl rfl (c_take3 hE hl hk hs1 (fun k hx M3 c3 => ?_) (fun hx h40 => ?_) (fun hx h40 M3 c3 => ?_))
            · refine a_ifT rfl rfl br_ne (by decide) ?_
              have hkm := (sAt_lt hx).1
              refine x_opp rfl rfl ?_
              refine x_kcg rfl ?_
              refine a_putJ 11 (s_0 dy) rfl rfl rfl rfl ?_
              refine x_opp rfl rfl ?_
              refine m_get hsh (hio _ _ _).2.2.2 ?_
              refine a_iret rfl rfl rfl ?_
              obtain ⟨M4, hM4⟩ : ∃ M4, m_setI (m_setI M3 0 11 0) 65 19 0 = M4 := ⟨_, rfl⟩
              have f4 : ∀ a i, 66 ≤ a → a < 114 → M4.1 a i = M.1 a i := fun a i x y => by
                have := (hs1.2 l hl).1
                rw [← hM4, mI_ne _ _ _ (by omega), mI_ne _ _ _ (by omega), c3.2.1 a i (by omega), ← hM1, mI_ne _ _ _ (by omega)]
              have f65 : ∀ i, i ≠ 19 → M4.1 65 i = M.1 65 i := fun i x => by
                have := (hs1.2 l hl).1
                rw [← hM4, mI_at, if_neg (by omega), mI_ne _ _ _ (by omega), c3.2.1 65 i (by omega), ← hM1, mI_ne _ _ _ (by omega)]
              have m42 : M4.2 = M.2 := by rw [← hM4, mI_2, mI_2, c3.1, ← hM1, mI_2]
              have kF : M4.1 65 9 = nI n := by rw [f65 9 (by decide)]; exact hn2
              have d4 : M4.1 80 l = 0 := by rw [f4 _ _ (by decide) (by decide)]; exact zz_e0 q5 hd
              have k75 : M4.1 75 l = nI (lK (E l)) := by rw [f4 _ _ (by decide) (by decide)]; exact q1
              have k81 : M4.1 81 l = nI (lMy (E l)) := by rw [f4 _ _ (by decide) (by decide)]; exact q6
              have ls4 : mLs M4 E n := by
                intro m hm
                obtain ⟨a1, a2, a3, a4, a5, a6, a7, a8⟩ := hL.2.2.1 m hm
                refine ⟨by rw [f4 _ _ (by decide) (by decide)]; exact a1, by rw [f4 _ _ (by decide) (by decide)]; exact a2, by rw [f4 _ _ (by decide) (by decide)]; exact a3, by rw [m42]; exact a4, by rw [f4 _ _ (by decide) (by decide)]; exact a5, by rw [f4 _ _ (by decide) (by decide)]; exact a6, by rw [m42]; exact a7, fun hh j hj => by rw [f4 _ _ (by decide) (by decide)]; exact a8 hh j hj⟩
              have pk : (0 : Int32) ≤ nI k := nI_pos' (by omega)
              refine ⟨_, dy, _, rfl, rfl, ?_⟩; refine e_intro rfl rfl ?_
              refine x_opp rfl rfl ?_
              refine x_kcg rfl ?_
              refine a_putJ 19 (s_65 dy) rfl rfl rfl rfl ?_
              refine x_opp rfl rfl ?_
              refine x_opp rfl rfl ?_
              rw [hM4]
              refine a_callV (s_65 dy) rfl rfl rfl rfl (k_made hn16 kF ?_)
              refine a_ifF rfl rfl br_eqz (by first | exact hv | exact nt_f hv | exact tnf hv | exact fnt hv | exact Int32.not_lt.mp hv | exact Int32.not_le.mp hv | exact Int32.not_lt.mpr hv | exact Int32.not_le.mpr hv) ?_
              refine x_opp rfl rfl ?_
              refine x_kcg rfl ?_
              refine a_callS rfl rfl rfl rfl (k_isWord (t := 26) (by decide) ?_)
              refine a_ifF rfl rfl br_eqz (by first | exact hw | exact nt_f hw | exact tnf hw | exact fnt hw | exact Int32.not_lt.mp hw | exact Int32.not_le.mp hw | exact Int32.not_lt.mpr hw | exact Int32.not_le.mpr hw) ?_
              refine x_opp rfl rfl ?_
              refine x_kcg rfl ?_
              refine x_kcg rfl ?_
              refine a_callS rfl rfl rfl rfl (k_in ?_)
              refine a_ifT rfl rfl br_nez (by first | exact he | exact nt_f he | exact tnf he | exact fnt he | exact Int32.not_lt.mp he | exact Int32.not_le.mp he | exact Int32.not_lt.mpr he | exact Int32.not_le.mpr he) ?_
              refine x_opp rfl rfl ?_
              refine m_getg (s_65 dy) rfl rfl rfl ?_
              refine x_opp rfl rfl ?_
              refine a_baldN (s_80 dy) (k := l) rfl rfl rfl (by omega) (by decide) ?_
              refine a_ifF rfl rfl br_ne (fun h => h d4) ?_
              refine x_opp rfl rfl ?_
              refine m_getg (s_65 dy) rfl rfl rfl ?_
              refine x_opp rfl rfl ?_
              refine a_ialdN (s_75 dy) (k := l) rfl rfl rfl (by omega) (by decide) ?_
              refine x_kcg rfl ?_
              rw [k75]
              refine a_icT rfl rfl br_le (by first | exact hk2 | exact nt_f hk2 | exact tnf hk2 | exact fnt hk2 | exact Int32.not_lt.mp hk2 | exact Int32.not_le.mp hk2 | exact Int32.not_lt.mpr hk2 | exact Int32.not_le.mpr hk2) ?_
              iterate 3 (refine x_opp rfl rfl ?_)
              refine a_callV (s_65 dy) rfl rfl rfl rfl (k_stands2 hl hE ls4 ?_)
              rw [hx]
              refine x_opp rfl rfl ?_
              refine x_opp rfl rfl ?_
              refine a_ifT rfl rfl br_ge (by first | exact pk | exact nt_f pk | exact tnf pk | exact fnt pk | exact Int32.not_lt.mp pk | exact Int32.not_le.mp pk | exact Int32.not_lt.mpr pk | exact Int32.not_le.mpr pk) ?_
              refine x_opp rfl rfl ?_
              refine a_ifT rfl rfl br_ge (by first | exact pk | exact nt_f pk | exact tnf pk | exact fnt pk | exact Int32.not_lt.mp pk | exact Int32.not_le.mp pk | exact Int32.not_lt.mpr pk | exact Int32.not_le.mpr pk) ?_
              refine x_opp rfl rfl ?_
              refine m_getg (s_65 dy) rfl rfl rfl ?_
              refine x_kcg rfl ?_
              iterate 5 (refine x_opp rfl rfl ?_)
              show sm_X _ _ _ _ _ _ _ (Value.int e :: Value.int (40 * nI l + nI k) :: _) _ _
              rw [g40]
              refine a_iastN (s_83 dy) (k := 40 * l + k) rfl rfl rfl (by omega) (by decide) ?_
              refine x_opp rfl rfl ?_
              refine a_callV (s_65 dy) rfl rfl rfl rfl (k_changed ?_)
              refine x_opp rfl rfl ?_
              refine m_getg (s_65 dy) rfl rfl rfl ?_
              refine x_opp rfl rfl ?_
              refine a_ialdN (s_81 dy) (k := l) rfl rfl rfl (by omega) (by decide) ?_
              refine a_iret rfl rfl rfl ?_
              subst hM4
              refine ⟨?_, _, rfl, ?_⟩
              · have a1 : (m_setI M3 0 11 0).1 (P l) 3 = nI (lMy (E l)) := by
                  have := (hs1.2 l hl).1
                  rw [mI_ne _ _ _ (by omega), c3.2.1 _ _ (by omega)]
                  exact ((hs1.2 l hl).2.2.1.2.1 hk).1
                rw [a1]
                exact congrArg (fun x => some (Value.int x)) k81
              · subst hM1
                exact R_wA hG hN hL hQ hl hk hkm c3 rfl
            · refine a_ifF rfl rfl br_ne (by decide) ?_
              refine x_kcg rfl ?_
              refine a_iret rfl rfl rfl ?_
              have kF : M2.1 65 9 = nI n := k42
              have d4 : M2.1 80 l = 0 := by
                have : M2.1 80 l = M.1 80 l := by subst hM2; subst hM1; rfl
                rw [this]; exact zz_e0 q5 hd
              have k75 : M2.1 75 l = nI (lK (E l)) := by subst hM2; subst hM1; exact q1
              have k81 : M2.1 81 l = 40 := by
                have : M2.1 81 l = M.1 81 l := by subst hM2; subst hM1; rfl
                rw [this, q6, h40]; rfl
              have ls4 : mLs M2 E n := by
                subst hM2; subst hM1
                exact (rL_fr (M' := m_setI (m_setI M 1 5 0) 65 19 0) hL (fun a i h => by repeat (first | rw [mI_at, if_neg (by omega)] | rw [mA_at, if_neg (by omega)] | rw [mL_1] | rw [mR_1])) (fun _ _ => rfl) rfl).2.2.1
              have q40 : ¬ (40 : Int32) ≠ 40 := fun h => h rfl
              refine ⟨_, dy, _, rfl, rfl, ?_⟩; refine e_intro rfl rfl ?_
              refine x_opp rfl rfl ?_
              refine x_kcg rfl ?_
              refine a_putJ 19 (s_65 dy) rfl rfl rfl rfl ?_
              refine x_opp rfl rfl ?_
              refine x_opp rfl rfl ?_
              rw [hM2]
              refine a_callV (s_65 dy) rfl rfl rfl rfl (k_made hn16 kF ?_)
              refine a_ifF rfl rfl br_eqz (by first | exact hv | exact nt_f hv | exact tnf hv | exact fnt hv | exact Int32.not_lt.mp hv | exact Int32.not_le.mp hv | exact Int32.not_lt.mpr hv | exact Int32.not_le.mpr hv) ?_
              refine x_opp rfl rfl ?_
              refine x_kcg rfl ?_
              refine a_callS rfl rfl rfl rfl (k_isWord (t := 26) (by decide) ?_)
              refine a_ifF rfl rfl br_eqz (by first | exact hw | exact nt_f hw | exact tnf hw | exact fnt hw | exact Int32.not_lt.mp hw | exact Int32.not_le.mp hw | exact Int32.not_lt.mpr hw | exact Int32.not_le.mpr hw) ?_
              refine x_opp rfl rfl ?_
              refine x_kcg rfl ?_
              refine x_kcg rfl ?_
              refine a_callS rfl rfl rfl rfl (k_in ?_)
              refine a_ifT rfl rfl br_nez (by first | exact he | exact nt_f he | exact tnf he | exact fnt he | exact Int32.not_lt.mp he | exact Int32.not_le.mp he | exact Int32.not_lt.mpr he | exact Int32.not_le.mpr he) ?_
              refine x_opp rfl rfl ?_
              refine m_getg (s_65 dy) rfl rfl rfl ?_
              refine x_opp rfl rfl ?_
              refine a_baldN (s_80 dy) (k := l) rfl rfl rfl (by omega) (by decide) ?_
              refine a_ifF rfl rfl br_ne (fun h => h d4) ?_
              refine x_opp rfl rfl ?_
              refine m_getg (s_65 dy) rfl rfl rfl ?_
              refine x_opp rfl rfl ?_
              refine a_ialdN (s_75 dy) (k := l) rfl rfl rfl (by omega) (by decide) ?_
              refine x_kcg rfl ?_
              rw [k75]
              refine a_icT rfl rfl br_le (by first | exact hk2 | exact nt_f hk2 | exact tnf hk2 | exact fnt hk2 | exact Int32.not_lt.mp hk2 | exact Int32.not_le.mp hk2 | exact Int32.not_lt.mpr hk2 | exact Int32.not_le.mpr hk2) ?_
              iterate 3 (refine x_opp rfl rfl ?_)
              refine a_callV (s_65 dy) rfl rfl rfl rfl (k_stands2 hl hE ls4 ?_)
              rw [hx]
              refine x_opp rfl rfl ?_
              refine x_opp rfl rfl ?_
              refine a_ifF rfl rfl br_ge (by decide) ?_
              refine x_opp rfl rfl ?_
              refine m_getg (s_65 dy) rfl rfl rfl ?_
              refine x_opp rfl rfl ?_
              refine a_ialdN (s_81 dy) (k := l) rfl rfl rfl (by omega) (by decide) ?_
              refine x_kcg rfl ?_
              rw [k81]
              refine a_icF rfl rfl br_ne (by first | exact q40 | exact nt_f q40 | exact tnf q40 | exact fnt q40 | exact Int32.not_lt.mp q40 | exact Int32.not_le.mp q40 | exact Int32.not_lt.mpr q40 | exact Int32.not_le.mpr q40) ?_
              refine x_kcg rfl ?_
              refine a_iret rfl rfl rfl ?_
              subst hM2; subst hM1; exact ⟨rfl, _, rfl, R_cl hR⟩
            · refine a_ifT rfl rfl br_ne (by decide) ?_
              refine x_opp rfl rfl ?_
              refine x_kcg rfl ?_
              refine a_putJ 11 (s_0 dy) rfl rfl rfl rfl ?_
              refine x_opp rfl rfl ?_
              refine m_get hsh (hio _ _ _).2.2.2 ?_
              refine a_iret rfl rfl rfl ?_
              obtain ⟨M4, hM4⟩ : ∃ M4, m_setI (m_setI M3 0 11 0) 65 19 0 = M4 := ⟨_, rfl⟩
              have hp14 := (hs1.2 l hl).1
              have f4 : ∀ a i, 66 ≤ a → a < 114 → M4.1 a i = M.1 a i := fun a i x y => by
                rw [← hM4, mI_ne _ _ _ (by omega), mI_ne _ _ _ (by omega), c3.2.1 a i (by omega) (by omega), ← hM1, mI_ne _ _ _ (by omega)]
              have f65 : ∀ i, i ≠ 19 → M4.1 65 i = M.1 65 i := fun i x => by
                rw [← hM4, mI_at, if_neg (by omega), mI_ne _ _ _ (by omega), c3.2.1 65 i (by omega) (by omega), ← hM1, mI_ne _ _ _ (by omega)]
              have fl4 : ∀ a i, a < 114 → M4.2.1 a i = M.2.1 a i := fun a i x => by
                rw [← hM4, mI_2, mI_2, c3.2.2.2.2.1 a i (by omega), ← hM1, mI_2]
              have kF : M4.1 65 9 = nI n := by rw [f65 9 (by decide)]; exact hn2
              have d4 : M4.1 80 l = 0 := by rw [f4 _ _ (by decide) (by decide)]; exact zz_e0 q5 hd
              have k75 : M4.1 75 l = nI (lK (E l)) := by rw [f4 _ _ (by decide) (by decide)]; exact q1
              have k81 : M4.1 81 l = nI (lMy (E l)) := by rw [f4 _ _ (by decide) (by decide)]; exact q6
              have ls4 : mLs M4 E n := by
                intro m hm
                obtain ⟨a1, a2, a3, a4, a5, a6, a7, a8⟩ := hL.2.2.1 m hm
                refine ⟨by rw [f4 _ _ (by decide) (by decide)]; exact a1, by rw [f4 _ _ (by decide) (by decide)]; exact a2, by rw [f4 _ _ (by decide) (by decide)]; exact a3, by rw [fl4 _ _ (by decide)]; exact a4, by rw [f4 _ _ (by decide) (by decide)]; exact a5, by rw [f4 _ _ (by decide) (by decide)]; exact a6, fun j hj => by rw [fl4 _ _ (by decide)]; exact a7 j hj, fun hh j hj => by rw [f4 _ _ (by decide) (by decide)]; exact a8 hh j hj⟩
              have q40 : nI (lMy (E l)) ≠ 40 := fun h => by
                have := (nI_eq (a := lMy (E l)) (b := 40) (by omega) (by decide)).mp h
                omega
              have k81' : (m_setL M4 82 (40 * l + lMy (E l)) o).1 81 l = nI (lMy (E l)) := k81
              have k81'' : (m_setI (m_setI (m_setI (m_setL M4 82 (40 * l + lMy (E l)) o) 81 l (nI (lMy (E l) + 1))) 83 (40 * l + lMy (E l)) e) 65 38 0).1 81 l = nI (lMy (E l) + 1) := by
                rw [mI_ne _ _ _ (by decide), mI_ne _ _ _ (by decide), mI_at, if_pos ⟨rfl, rfl⟩]
              refine ⟨_, dy, _, rfl, rfl, ?_⟩; refine e_intro rfl rfl ?_
              refine x_opp rfl rfl ?_
              refine x_kcg rfl ?_
              refine a_putJ 19 (s_65 dy) rfl rfl rfl rfl ?_
              refine x_opp rfl rfl ?_
              refine x_opp rfl rfl ?_
              rw [hM4]
              refine a_callV (s_65 dy) rfl rfl rfl rfl (k_made hn16 kF ?_)
              refine a_ifF rfl rfl br_eqz (by first | exact hv | exact nt_f hv | exact tnf hv | exact fnt hv | exact Int32.not_lt.mp hv | exact Int32.not_le.mp hv | exact Int32.not_lt.mpr hv | exact Int32.not_le.mpr hv) ?_
              refine x_opp rfl rfl ?_
              refine x_kcg rfl ?_
              refine a_callS rfl rfl rfl rfl (k_isWord (t := 26) (by decide) ?_)
              refine a_ifF rfl rfl br_eqz (by first | exact hw | exact nt_f hw | exact tnf hw | exact fnt hw | exact Int32.not_lt.mp hw | exact Int32.not_le.mp hw | exact Int32.not_lt.mpr hw | exact Int32.not_le.mpr hw) ?_
              refine x_opp rfl rfl ?_
              refine x_kcg rfl ?_
              refine x_kcg rfl ?_
              refine a_callS rfl rfl rfl rfl (k_in ?_)
              refine a_ifT rfl rfl br_nez (by first | exact he | exact nt_f he | exact tnf he | exact fnt he | exact Int32.not_lt.mp he | exact Int32.not_le.mp he | exact Int32.not_lt.mpr he | exact Int32.not_le.mpr he) ?_
              refine x_opp rfl rfl ?_
              refine m_getg (s_65 dy) rfl rfl rfl ?_
              refine x_opp rfl rfl ?_
              refine a_baldN (s_80 dy) (k := l) rfl rfl rfl (by omega) (by decide) ?_
              refine a_ifF rfl rfl br_ne (fun h => h d4) ?_
              refine x_opp rfl rfl ?_
              refine m_getg (s_65 dy) rfl rfl rfl ?_
              refine x_opp rfl rfl ?_
              refine a_ialdN (s_75 dy) (k := l) rfl rfl rfl (by omega) (by decide) ?_
              refine x_kcg rfl ?_
              rw [k75]
              refine a_icT rfl rfl br_le (by first | exact hk2 | exact nt_f hk2 | exact tnf hk2 | exact fnt hk2 | exact Int32.not_lt.mp hk2 | exact Int32.not_le.mp hk2 | exact Int32.not_lt.mpr hk2 | exact Int32.not_le.mpr hk2) ?_
              iterate 3 (refine x_opp rfl rfl ?_)
              refine a_callV (s_65 dy) rfl rfl rfl rfl (k_stands2 hl hE ls4 ?_)
              rw [hx]
              refine x_opp rfl rfl ?_
              refine x_opp rfl rfl ?_
              refine a_ifF rfl rfl br_ge (by decide) ?_
              refine x_opp rfl rfl ?_
              refine m_getg (s_65 dy) rfl rfl rfl ?_
              refine x_opp rfl rfl ?_
              refine a_ialdN (s_81 dy) (k := l) rfl rfl rfl (by omega) (by decide) ?_
              refine x_kcg rfl ?_
              rw [k81]
              refine a_icT rfl rfl br_ne (by first | exact q40 | exact nt_f q40 | exact tnf q40 | exact fnt q40 | exact Int32.not_lt.mp q40 | exact Int32.not_le.mp q40 | exact Int32.not_lt.mpr q40 | exact Int32.not_le.mpr q40) ?_
              refine x_opp rfl rfl ?_
              refine a_ifF rfl rfl br_ge (by decide) ?_
              refine x_opp rfl rfl ?_
              refine m_getg (s_65 dy) rfl rfl rfl ?_
              refine x_opp rfl rfl ?_
              refine a_ialdN (s_81 dy) (k := l) rfl rfl rfl (by omega) (by decide) ?_
              refine x_opp rfl rfl ?_
              refine x_opp rfl rfl ?_
              refine m_getg (s_65 dy) rfl rfl rfl ?_
              refine x_kcg rfl ?_
              iterate 5 (refine x_opp rfl rfl ?_)
              rw [k81, g40]
              refine a_lastN (s_82 dy) (k := 40 * l + lMy (E l)) rfl rfl rfl (by omega) (by decide) ?_
              refine x_opp rfl rfl ?_
              refine m_getg (s_65 dy) rfl rfl rfl ?_
              refine x_opp rfl rfl ?_
              refine x_opp rfl rfl ?_
              refine a_ialdN (s_81 dy) (k := l) rfl rfl rfl (by omega) (by decide) ?_
              refine x_kcg rfl ?_
              refine x_opp rfl rfl ?_
              rw [k81', nI_1]
              refine a_iastN (s_81 dy) (k := l) rfl rfl rfl (by omega) (by decide) ?_
              refine x_go rfl ?_
              refine x_opp rfl rfl ?_
              refine m_getg (s_65 dy) rfl rfl rfl ?_
              refine x_kcg rfl ?_
              iterate 5 (refine x_opp rfl rfl ?_)
              rw [g40]
              refine a_iastN (s_83 dy) (k := 40 * l + lMy (E l)) rfl rfl rfl (by omega) (by decide) ?_
              refine x_opp rfl rfl ?_
              refine a_callV (s_65 dy) rfl rfl rfl rfl (k_changed ?_)
              refine x_opp rfl rfl ?_
              refine m_getg (s_65 dy) rfl rfl rfl ?_
              refine x_opp rfl rfl ?_
              refine a_ialdN (s_81 dy) (k := l) rfl rfl rfl (by omega) (by decide) ?_
              rw [k81'']
              refine a_iret rfl rfl rfl ?_
              subst hM4
              refine ⟨?_, _, rfl, ?_⟩
              · have a1 : (m_setI M3 0 11 0).1 (P l) 3 = nI (lMy (E l) + 1) := by
                  rw [mI_ne _ _ _ (by omega)]
                  exact c3.2.2.1
                rw [a1]
              · subst hM1
                exact R_wC hG hN hL hQ hl hk h40 hm26 hx c3 rfl
          · obtain ⟨s0, hsh, hio⟩ := cSh_t3 (hs1.2 l hl).2.1 (by omega)
            have o1 : lK (E l) ≤ 4 := (hE.2 l hl).1
            have hk2 : ¬ nI (lK (E l)) ≤ 2 := nI_ge (a := 2) (by omega) (by omega)
            obtain ⟨MF, hMF⟩ : ∃ MF, m_setI (nFind M1 1 3 3) 65 19 0 = MF := ⟨_, rfl⟩
            have kF : MF.1 65 9 = nI n := by rw [← hMF]; subst hM1; exact hn2
            have dF : MF.1 80 l = 0 := by
              have : MF.1 80 l = M.1 80 l := by rw [← hMF]; subst hM1; rfl
              rw [this]; exact zz_e0 q5 hd
            have k75 : MF.1 75 l = nI (lK (E l)) := by rw [← hMF]; subst hM1; exact q1
            refine x_opp rfl rfl ?_
            refine m_getg (s_0 dy) rfl rfl rfl ?_
            refine a_callV (s_1 dy) rfl rfl rfl rfl (c_clear (s_1 dy) ?_)
            refine x_opp rfl rfl ?_
            refine m_getg (s_0 dy) rfl rfl rfl ?_
            refine x_opp rfl rfl ?_
            rw [hM1]
            refine a_callV (s_4 dy) rfl rfl rfl rfl (c_made c43 ?_)
            refine a_ifF rfl rfl br_eqz (by first | exact hv | exact nt_f hv | exact tnf hv | exact fnt hv | exact Int32.not_lt.mp hv | exact Int32.not_le.mp hv | exact Int32.not_lt.mpr hv | exact Int32.not_le.mpr hv) ?_
            refine x_opp rfl rfl ?_
            refine a_callS rfl rfl rfl rfl (c_isWord ?_)
            refine a_ifF rfl rfl br_eqz (by first | exact hw | exact nt_f hw | exact tnf hw | exact fnt hw | exact Int32.not_lt.mp hw | exact Int32.not_le.mp hw | exact Int32.not_lt.mpr hw | exact Int32.not_le.mpr hw) ?_
            refine x_opp rfl rfl ?_
            refine x_kcg rfl ?_
            refine a_icF rfl rfl br_lt (by first | exact e0 | exact nt_f e0 | exact tnf e0 | exact fnt e0 | exact Int32.not_lt.mp e0 | exact Int32.not_le.mp e0 | exact Int32.not_lt.mpr e0 | exact Int32.not_le.mpr e0) ?_
            refine x_opp rfl rfl ?_
            refine x_kcg rfl ?_
            refine a_icT rfl rfl br_le (by first | exact e1 | exact nt_f e1 | exact tnf e1 | exact fnt e1 | exact Int32.not_lt.mp e1 | exact Int32.not_le.mp e1 | exact Int32.not_lt.mpr e1 | exact Int32.not_le.mpr e1) ?_
            refine x_opp rfl rfl ?_
            refine m_getg (s_0 dy) rfl rfl rfl ?_
            refine x_opp rfl rfl ?_
            refine a_callV (s_4 dy) rfl rfl rfl rfl (c_wantR hE hl hs1 hd ?_)
            refine x_opp rfl rfl ?_
            refine x_opp rfl rfl ?_
            refine x_ifnonR ?_
            refine x_opp rfl rfl ?_
            refine m_inst hsh (hio _ _ _) ?_
            refine a_ifT rfl rfl br_eq (by decide) ?_
            refine x_opp rfl rfl ?_
            refine m_getg (s_0 dy) rfl rfl rfl ?_
            refine x_kcg rfl ?_
            refine a_callV (s_1 dy) rfl rfl rfl rfl (c_find (s_1 dy) (s_3 dy) (by decide) (vp_in_nI (n := 3) (by decide) (by decide)) ?_)
            refine a_iret rfl rfl rfl ?_
            refine ⟨_, dy, _, rfl, rfl, ?_⟩; refine e_intro rfl rfl ?_
            refine x_opp rfl rfl ?_
            refine x_kcg rfl ?_
            refine a_putJ 19 (s_65 dy) rfl rfl rfl rfl ?_
            refine x_opp rfl rfl ?_
            refine x_opp rfl rfl ?_
            rw [hMF]
            refine a_callV (s_65 dy) rfl rfl rfl rfl (k_made hn16 kF ?_)
            refine a_ifF rfl rfl br_eqz (by first | exact hv | exact nt_f hv | exact tnf hv | exact fnt hv | exact Int32.not_lt.mp hv | exact Int32.not_le.mp hv | exact Int32.not_lt.mpr hv | exact Int32.not_le.mpr hv) ?_
            refine x_opp rfl rfl ?_
            refine x_kcg rfl ?_
            refine a_callS rfl rfl rfl rfl (k_isWord (t := 26) (by decide) ?_)
            refine a_ifF rfl rfl br_eqz (by first | exact hw | exact nt_f hw | exact tnf hw | exact fnt hw | exact Int32.not_lt.mp hw | exact Int32.not_le.mp hw | exact Int32.not_lt.mpr hw | exact Int32.not_le.mpr hw) ?_
            refine x_opp rfl rfl ?_
            refine x_kcg rfl ?_
            refine x_kcg rfl ?_
            refine a_callS rfl rfl rfl rfl (k_in ?_)
            refine a_ifT rfl rfl br_nez (by first | exact he | exact nt_f he | exact tnf he | exact fnt he | exact Int32.not_lt.mp he | exact Int32.not_le.mp he | exact Int32.not_lt.mpr he | exact Int32.not_le.mpr he) ?_
            refine x_opp rfl rfl ?_
            refine m_getg (s_65 dy) rfl rfl rfl ?_
            refine x_opp rfl rfl ?_
            refine a_baldN (s_80 dy) (k := l) rfl rfl rfl (by omega) (by decide) ?_
            refine a_ifF rfl rfl br_ne (fun h => h dF) ?_
            refine x_opp rfl rfl ?_
            refine m_getg (s_65 dy) rfl rfl rfl ?_
            refine x_opp rfl rfl ?_
            refine a_ialdN (s_75 dy) (k := l) rfl rfl rfl (by omega) (by decide) ?_
            refine x_kcg rfl ?_
            rw [k75]
            refine a_icF rfl rfl br_le (by first | exact hk2 | exact nt_f hk2 | exact tnf hk2 | exact fnt hk2 | exact Int32.not_lt.mp hk2 | exact Int32.not_le.mp hk2 | exact Int32.not_lt.mpr hk2 | exact Int32.not_le.mpr hk2) ?_
            refine x_opp rfl rfl ?_
            refine x_opp rfl rfl ?_
            refine m_getg (s_65 dy) rfl rfl rfl ?_
            refine x_opp rfl rfl ?_
            refine a_baldN (s_80 dy) (k := l) rfl rfl rfl (by omega) (by decide) ?_
            refine a_ifT rfl rfl br_eq (by first | exact dF | exact nt_f dF | exact tnf dF | exact fnt dF | exact Int32.not_lt.mp dF | exact Int32.not_le.mp dF | exact Int32.not_lt.mpr dF | exact Int32.not_le.mpr dF) ?_
            refine x_kcg rfl ?_
            refine x_go rfl ?_
            refine a_callV (s_65 dy) rfl rfl rfl rfl (k_met (vp_in_nI (n := 3) (by decide) (by decide)) ?_)
            refine a_iret rfl rfl rfl ?_
            subst hMF; subst hM1
            exact ⟨rfl, _, rfl, R_fd (k := 3) (by decide) hR⟩
      · have fin : sm_E L xs 100 168 [.ref 65, .int (nI l), .long o, .int e] (wm (sh0 ++ dy) M1) (fun r w => r = some (.int (-1)) ∧ ∃ M2, w = wm (sh0 ++ dy) M2 ∧ rR (t + 1) dy M2) := by
          refine e_intro rfl rfl ?_
          refine x_opp rfl rfl ?_
          refine x_kcg rfl ?_
          refine a_putJ 19 (s_65 dy) rfl rfl rfl rfl ?_
          refine x_opp rfl rfl ?_
          refine x_opp rfl rfl ?_
          rw [hM2]
          refine a_callV (s_65 dy) rfl rfl rfl rfl (k_made hn16 k42 ?_)
          refine a_ifF rfl rfl br_eqz (by first | exact hv | exact nt_f hv | exact tnf hv | exact fnt hv | exact Int32.not_lt.mp hv | exact Int32.not_le.mp hv | exact Int32.not_lt.mpr hv | exact Int32.not_le.mpr hv) ?_
          refine x_opp rfl rfl ?_
          refine x_kcg rfl ?_
          refine a_callS rfl rfl rfl rfl (k_isWord (t := 26) (by decide) ?_)
          refine a_ifF rfl rfl br_eqz (by first | exact hw | exact nt_f hw | exact tnf hw | exact fnt hw | exact Int32.not_lt.mp hw | exact Int32.not_le.mp hw | exact Int32.not_lt.mpr hw | exact Int32.not_le.mpr hw) ?_
          refine x_opp rfl rfl ?_
          refine x_kcg rfl ?_
          refine x_kcg rfl ?_
          refine a_callS rfl rfl rfl rfl (k_in ?_)
          refine a_ifF rfl rfl br_nez (by first | exact he | exact nt_f he | exact tnf he | exact fnt he | exact Int32.not_lt.mp he | exact Int32.not_le.mp he | exact Int32.not_lt.mpr he | exact Int32.not_le.mpr he) ?_
          refine x_kcg rfl ?_
          refine a_iret rfl rfl rfl ?_
          subst hM2; subst hM1; exact ⟨rfl, _, rfl, R_cl hR⟩
        by_cases e0 : e < -100
        · refine x_opp rfl rfl ?_
          refine m_getg (s_0 dy) rfl rfl rfl ?_
          refine a_callV (s_1 dy) rfl rfl rfl rfl (c_clear (s_1 dy) ?_)
          refine x_opp rfl rfl ?_
          refine m_getg (s_0 dy) rfl rfl rfl ?_
          refine x_opp rfl rfl ?_
          rw [hM1]
          refine a_callV (s_4 dy) rfl rfl rfl rfl (c_made c43 ?_)
          refine a_ifF rfl rfl br_eqz (by first | exact hv | exact nt_f hv | exact tnf hv | exact fnt hv | exact Int32.not_lt.mp hv | exact Int32.not_le.mp hv | exact Int32.not_lt.mpr hv | exact Int32.not_le.mpr hv) ?_
          refine x_opp rfl rfl ?_
          refine a_callS rfl rfl rfl rfl (c_isWord ?_)
          refine a_ifF rfl rfl br_eqz (by first | exact hw | exact nt_f hw | exact tnf hw | exact fnt hw | exact Int32.not_lt.mp hw | exact Int32.not_le.mp hw | exact Int32.not_lt.mpr hw | exact Int32.not_le.mpr hw) ?_
          refine x_opp rfl rfl ?_
          refine x_kcg rfl ?_
          refine a_icT rfl rfl br_lt (by first | exact e0 | exact nt_f e0 | exact tnf e0 | exact fnt e0 | exact Int32.not_lt.mp e0 | exact Int32.not_le.mp e0 | exact Int32.not_lt.mpr e0 | exact Int32.not_le.mpr e0) ?_
          refine x_kcg rfl ?_
          refine a_iret rfl rfl rfl ?_
          exact ⟨_, dy, _, rfl, rfl, fin⟩
        · have e1 : ¬ e ≤ 100 := fun q => he (by unfold inR; rw [if_neg e0, if_neg (Int32.not_lt.mpr q)])
          refine x_opp rfl rfl ?_
          refine m_getg (s_0 dy) rfl rfl rfl ?_
          refine a_callV (s_1 dy) rfl rfl rfl rfl (c_clear (s_1 dy) ?_)
          refine x_opp rfl rfl ?_
          refine m_getg (s_0 dy) rfl rfl rfl ?_
          refine x_opp rfl rfl ?_
          rw [hM1]
          refine a_callV (s_4 dy) rfl rfl rfl rfl (c_made c43 ?_)
          refine a_ifF rfl rfl br_eqz (by first | exact hv | exact nt_f hv | exact tnf hv | exact fnt hv | exact Int32.not_lt.mp hv | exact Int32.not_le.mp hv | exact Int32.not_lt.mpr hv | exact Int32.not_le.mpr hv) ?_
          refine x_opp rfl rfl ?_
          refine a_callS rfl rfl rfl rfl (c_isWord ?_)
          refine a_ifF rfl rfl br_eqz (by first | exact hw | exact nt_f hw | exact tnf hw | exact fnt hw | exact Int32.not_lt.mp hw | exact Int32.not_le.mp hw | exact Int32.not_lt.mpr hw | exact Int32.not_le.mpr hw) ?_
          refine x_opp rfl rfl ?_
          refine x_kcg rfl ?_
          refine a_icF rfl rfl br_lt (by first | exact e0 | exact nt_f e0 | exact tnf e0 | exact fnt e0 | exact Int32.not_lt.mp e0 | exact Int32.not_le.mp e0 | exact Int32.not_lt.mpr e0 | exact Int32.not_le.mpr e0) ?_
          refine x_opp rfl rfl ?_
          refine x_kcg rfl ?_
          refine a_icF rfl rfl br_le (by first | exact e1 | exact nt_f e1 | exact tnf e1 | exact fnt e1 | exact Int32.not_lt.mp e1 | exact Int32.not_le.mp e1 | exact Int32.not_lt.mpr e1 | exact Int32.not_le.mpr e1) ?_
          refine x_kcg rfl ?_
          refine a_iret rfl rfl rfl ?_
          exact ⟨_, dy, _, rfl, rfl, fin⟩
    · refine x_opp rfl rfl ?_
      refine m_getg (s_0 dy) rfl rfl rfl ?_
      refine a_callV (s_1 dy) rfl rfl rfl rfl (c_clear (s_1 dy) ?_)
      refine x_opp rfl rfl ?_
      refine m_getg (s_0 dy) rfl rfl rfl ?_
      refine x_opp rfl rfl ?_
      rw [hM1]
      refine a_callV (s_4 dy) rfl rfl rfl rfl (c_made c43 ?_)
      refine a_ifF rfl rfl br_eqz (by first | exact hv | exact nt_f hv | exact tnf hv | exact fnt hv | exact Int32.not_lt.mp hv | exact Int32.not_le.mp hv | exact Int32.not_lt.mpr hv | exact Int32.not_le.mpr hv) ?_
      refine x_opp rfl rfl ?_
      refine a_callS rfl rfl rfl rfl (c_isWord ?_)
      refine a_ifT rfl rfl br_eqz (by first | exact hw | exact nt_f hw | exact tnf hw | exact fnt hw | exact Int32.not_lt.mp hw | exact Int32.not_le.mp hw | exact Int32.not_lt.mpr hw | exact Int32.not_le.mpr hw) ?_
      refine x_kcg rfl ?_
      refine a_iret rfl rfl rfl ?_
      refine ⟨_, dy, _, rfl, rfl, ?_⟩; refine e_intro rfl rfl ?_
      refine x_opp rfl rfl ?_
      refine x_kcg rfl ?_
      refine a_putJ 19 (s_65 dy) rfl rfl rfl rfl ?_
      refine x_opp rfl rfl ?_
      refine x_opp rfl rfl ?_
      rw [hM2]
      refine a_callV (s_65 dy) rfl rfl rfl rfl (k_made hn16 k42 ?_)
      refine a_ifF rfl rfl br_eqz (by first | exact hv | exact nt_f hv | exact tnf hv | exact fnt hv | exact Int32.not_lt.mp hv | exact Int32.not_le.mp hv | exact Int32.not_lt.mpr hv | exact Int32.not_le.mpr hv) ?_
      refine x_opp rfl rfl ?_
      refine x_kcg rfl ?_
      refine a_callS rfl rfl rfl rfl (k_isWord (t := 26) (by decide) ?_)
      refine a_ifT rfl rfl br_eqz (by first | exact hw | exact nt_f hw | exact tnf hw | exact fnt hw | exact Int32.not_lt.mp hw | exact Int32.not_le.mp hw | exact Int32.not_lt.mpr hw | exact Int32.not_le.mpr hw) ?_
      refine x_kcg rfl ?_
      refine a_iret rfl rfl rfl ?_
      subst hM2; subst hM1; exact ⟨rfl, _, rfl, R_cl hR⟩
  · refine x_opp rfl rfl ?_
    refine m_getg (s_0 dy) rfl rfl rfl ?_
    refine a_callV (s_1 dy) rfl rfl rfl rfl (c_clear (s_1 dy) ?_)
    refine x_opp rfl rfl ?_
    refine m_getg (s_0 dy) rfl rfl rfl ?_
    refine x_opp rfl rfl ?_
    rw [hM1]
    refine a_callV (s_4 dy) rfl rfl rfl rfl (c_made c43 ?_)
    refine a_ifT rfl rfl br_eqz (by first | exact hv | exact nt_f hv | exact tnf hv | exact fnt hv | exact Int32.not_lt.mp hv | exact Int32.not_le.mp hv | exact Int32.not_lt.mpr hv | exact Int32.not_le.mpr hv) ?_
    refine x_kcg rfl ?_
    refine a_iret rfl rfl rfl ?_
    refine ⟨_, dy, _, rfl, rfl, ?_⟩; refine e_intro rfl rfl ?_
    refine x_opp rfl rfl ?_
    refine x_kcg rfl ?_
    refine a_putJ 19 (s_65 dy) rfl rfl rfl rfl ?_
    refine x_opp rfl rfl ?_
    refine x_opp rfl rfl ?_
    rw [hM2]
    refine a_callV (s_65 dy) rfl rfl rfl rfl (k_made hn16 k42 ?_)
    refine a_ifT rfl rfl br_eqz (by first | exact hv | exact nt_f hv | exact tnf hv | exact fnt hv | exact Int32.not_lt.mp hv | exact Int32.not_le.mp hv | exact Int32.not_lt.mpr hv | exact Int32.not_le.mpr hv) ?_
    refine x_kcg rfl ?_
    refine a_iret rfl rfl rfl ?_
    subst hM2; subst hM1; exact ⟨rfl, _, rfl, R_cl hR⟩
end WF
