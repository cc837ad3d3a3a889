/-! pairs: lists are asked, all of it -/
section AM
variable {L : Nat} {xs : Nat → Int32} {t d : Nat} {dy : List sh_T} {M : mm_T} {Q : Option Value → sm_W → Prop} {n G : Nat} {E : Nat → lT} {P : Nat → Nat}
set_option maxRecDepth 4000 in
theorem l_mask {v a : Int32} {o : Int64} (hq : sm_X L xs d 170 4 (sm_code 170 4) [(0, .ref 65), (1, .int v), (2, .int a), (3, .long o)] [.int (zz (decide (a = 0 ∨ a = 3)))] (wm (sh0 ++ dy) (m_setI M 65 19 0)) Q) : sm_X L xs d 170 0 (sm_code 170 0) (lv_args 0 [.ref 65, .int v, .int a, .long o]) [] (wm (sh0 ++ dy) M) Q := by
  by_cases h0 : a = 0
  · rw [decide_eq_true (Or.inl h0)] at hq
    refine x_opp rfl rfl ?_
    refine x_kcg rfl ?_
    refine a_putJ 19 (s_65 dy) rfl rfl rfl rfl ?_
    refine x_opp rfl rfl ?_
    refine a_ifT rfl rfl br_eq (by first | exact h0 | exact nt_f h0 | exact tnf h0 | exact fnt h0 | exact Int32.not_lt.mp h0 | exact Int32.not_le.mp h0 | exact Int32.not_lt.mpr h0 | exact Int32.not_le.mpr h0) ?_
    refine x_kcg rfl ?_
    refine x_go rfl ?_
    refine x_lvs [(0, .ref 65), (1, .int v), (2, .int a), (3, .long o)] rfl rfl rfl ⟨rfl, rfl, rfl, rfl, trivial⟩ ?_
    exact hq
  · by_cases h3 : a = 3
    · rw [decide_eq_true (Or.inr h3)] at hq
      refine x_opp rfl rfl ?_
      refine x_kcg rfl ?_
      refine a_putJ 19 (s_65 dy) rfl rfl rfl rfl ?_
      refine x_opp rfl rfl ?_
      refine a_ifF rfl rfl br_eq (by first | exact h0 | exact nt_f h0 | exact tnf h0 | exact fnt h0 | exact Int32.not_lt.mp h0 | exact Int32.not_le.mp h0 | exact Int32.not_lt.mpr h0 | exact Int32.not_le.mpr h0) ?_
      refine x_opp rfl rfl ?_
      refine x_kcg rfl ?_
      refine a_icF rfl rfl br_ne (fun h => h h3) ?_
      refine x_kcg rfl ?_
      refine x_go rfl ?_
      refine x_lvs [(0, .ref 65), (1, .int v), (2, .int a), (3, .long o)] rfl rfl rfl ⟨rfl, rfl, rfl, rfl, trivial⟩ ?_
      exact hq
    · rw [decide_eq_false (fun h => h.elim h0 h3)] at hq
      refine x_opp rfl rfl ?_
      refine x_kcg rfl ?_
      refine a_putJ 19 (s_65 dy) rfl rfl rfl rfl ?_
      refine x_opp rfl rfl ?_
      refine a_ifF rfl rfl br_eq (by first | exact h0 | exact nt_f h0 | exact tnf h0 | exact fnt h0 | exact Int32.not_lt.mp h0 | exact Int32.not_le.mp h0 | exact Int32.not_lt.mpr h0 | exact Int32.not_le.mpr h0) ?_
      refine x_opp rfl rfl ?_
      refine x_kcg rfl ?_
      refine a_icT rfl rfl br_ne (by first | exact h3 | exact nt_f h3 | exact tnf h3 | exact fnt h3 | exact Int32.not_lt.mp h3 | exact Int32.not_le.mp h3 | exact Int32.not_lt.mpr h3 | exact Int32.not_le.mpr h3) ?_
      refine x_kcg rfl ?_
      refine x_go rfl ?_
      refine x_lvs [(0, .ref 65), (1, .int v), (2, .int a), (3, .long o)] rfl rfl rfl ⟨rfl, rfl, rfl, rfl, trivial⟩ ?_
      exact hq
theorem c_askK {l : Nat} {o : Int64} (hl : l < n) (hs : cLs (sh0 ++ dy) M E P n) (hq : Q (some (.int (nI (lK (E l))))) (wm (sh0 ++ dy) M)) : sm_E L xs (d + 1) 48 [.ref (P l), .int 4, .long o] (wm (sh0 ++ dy) M) Q := by
  obtain ⟨s0, hsh, hk⟩ := cSh_kd (hs.2 l hl).2.1
  have hm := (hs.2 l hl).2.2.1.1
  refine e_intro rfl rfl ?_
  refine x_opp rfl rfl ?_
  refine x_tabOut (by decide) ?_
  refine x_opp rfl rfl ?_
  refine m_get hsh (hk _ _ _) ?_
  rw [hm]
  refine a_iret rfl rfl rfl ?_
  exact hq
set_option maxRecDepth 4000 in
theorem p_ask4 {l : Nat} {o : Int64} (h : rR t dy M) (hln : ∀ n, M.1 65 9 = nI n → n ≤ 16 → l < n) : pr L xs t dy M 47 170 [.int (nI l), .int 4, .long o] := by
  have hR := h; obtain ⟨s, E, P, w, n, hG, hN, hL, hS, hQ⟩ := h; have z0 : (0 : Int32) = 0 := rfl; have z1 : (0 : Int32) ≤ 0 := (by decide); have z11 : ¬ (1 : Int32) = 0 := (by decide); have z12 : ¬ (1 : Int32) ≤ 0 := (by decide); obtain ⟨M1, hM1⟩ : ∃ M1, m_setI M 1 5 0 = M1 := ⟨_, rfl⟩; have g1 : rG M1 n := hM1 ▸ rG_c hG; obtain ⟨M2, hM2⟩ : ∃ M2, m_setI M1 65 19 0 = M2 := ⟨_, rfl⟩; have g2 : rG M2 n := hM2 ▸ rG_z g1
  have hn16 : n ≤ 16 := hL.1.1
  have hn2 : M.1 65 9 = nI n := hL.2.2.2.1
  have hl : l < n := hln n hn2 hn16
  unfold pr; refine e_intro rfl rfl ?_
  have hE := hL.1
  have c43 : M1.1 4 3 = nI n := by subst hM1; exact hL.2.1.1
  have hl9 : gRow (nI n) (nI l) = true := gRow_n hn16 hl
  have hin : inR 4 0 4 = true := by decide
  have hs1 : cLs (sh0 ++ dy) M1 E P n := by subst hM1; exact (rL_fr (M' := m_setI M 1 5 0) hL (fun a i h => by repeat (first | rw [mI_at, if_neg (by omega)] | rw [mA_at, if_neg (by omega)] | rw [mL_1] | rw [mR_1])) (fun _ _ => rfl) rfl).2.1
  have h51 : M1.1 1 5 = 0 := by subst hM1; rfl
  have q5 : M.1 80 l = zz (lDr (E l)) := (hL.2.2.1 l hl).2.2.2.2.1
  have q75 : M.1 75 l = nI (lK (E l)) := (hL.2.2.1 l hl).1
  cases hd : lDr (E l) with
  | true =>
    obtain ⟨M3, hM3⟩ : ∃ M3, nFind M1 1 3 (nI 1) = M3 := ⟨_, rfl⟩
    have m5 : decide (M3.1 1 5 ≠ 0) = true := by subst hM3; rfl
    have e5 : M3.1 1 5 = 1 := by subst hM3; rfl
    obtain ⟨M4, hM4⟩ : ∃ M4, m_setI M3 65 19 0 = M4 := ⟨_, rfl⟩
    have k4 : M4.1 65 9 = nI n := by rw [← hM4, ← hM3]; subst hM1; exact hn2
    have d4 : ¬ M4.1 80 l = 0 := by
      have : M4.1 80 l = M.1 80 l := by rw [← hM4, ← hM3]; subst hM1; rfl
      rw [this]; exact zz_n0 q5 hd
    refine x_opp rfl rfl ?_
    refine m_getg (s_0 dy) rfl rfl rfl ?_
    refine a_callV (s_1 dy) rfl rfl rfl rfl (c_clear (s_1 dy) ?_)
    refine x_opp rfl rfl ?_
    refine m_getg (s_0 dy) rfl rfl rfl ?_
    refine x_opp rfl rfl ?_
    rw [hM1]
    refine a_callV (s_4 dy) rfl rfl rfl rfl (c_made c43 ?_)
    refine a_ifF rfl rfl br_eqz (by first | exact hl9 | exact nt_f hl9 | exact tnf hl9 | exact fnt hl9 | exact Int32.not_lt.mp hl9 | exact Int32.not_le.mp hl9 | exact Int32.not_lt.mpr hl9 | exact Int32.not_le.mpr hl9) ?_
    refine x_opp rfl rfl ?_
    refine a_ifF rfl rfl br_lt (by decide) ?_
    refine x_opp rfl rfl ?_
    refine x_kcg rfl ?_
    refine a_icF rfl rfl br_gt (by decide) ?_
    refine x_opp rfl rfl ?_
    refine x_kcg rfl ?_
    refine a_icT rfl rfl br_ne (by decide) ?_
    refine x_opp rfl rfl ?_
    refine a_ifF rfl rfl br_eq (by decide) ?_
    refine x_opp rfl rfl ?_
    refine x_kcg rfl ?_
    refine a_icT rfl rfl br_ne (by decide) ?_
    refine x_opp rfl rfl ?_
    refine m_getg (s_0 dy) rfl rfl rfl ?_
    refine x_opp rfl rfl ?_
    refine a_callV (s_4 dy) rfl rfl rfl rfl (c_wantN hE hl hs1 hd ?_)
    rw [hM3]
    refine x_opp rfl rfl ?_
    refine x_opp rfl rfl ?_
    refine x_ifnonN ?_
    refine x_kcg rfl ?_
    refine x_go rfl ?_
    refine x_opp rfl rfl ?_
    refine x_opp rfl rfl ?_
    refine m_getg (s_0 dy) rfl rfl rfl ?_
    refine a_callV (s_1 dy) rfl rfl rfl rfl (c_met (s_1 dy) ?_)
    refine a_ifF rfl rfl br_eqz (by first | exact m5 | exact nt_f m5 | exact tnf m5 | exact fnt m5 | exact Int32.not_lt.mp m5 | exact Int32.not_le.mp m5 | exact Int32.not_lt.mpr m5 | exact Int32.not_le.mpr m5) ?_
    refine x_opp rfl rfl ?_
    refine m_getg (s_0 dy) rfl rfl rfl ?_
    refine a_callV (s_1 dy) rfl rfl rfl rfl (c_answer (s_1 dy) ?_)
    refine x_go rfl ?_
    refine a_iret rfl rfl rfl ?_
    rw [e5]
    refine ⟨_, dy, _, rfl, rfl, ?_⟩
    refine e_intro rfl rfl ?_
    refine l_mask ?_
    rw [hM4]
    iterate 3 (refine x_opp rfl rfl ?_)
    refine a_callV (s_65 dy) rfl rfl rfl rfl (k_made hn16 k4 ?_)
    refine a_ifF rfl rfl br_eqz (by first | exact hl9 | exact nt_f hl9 | exact tnf hl9 | exact fnt hl9 | exact Int32.not_lt.mp hl9 | exact Int32.not_le.mp hl9 | exact Int32.not_lt.mpr hl9 | exact Int32.not_le.mpr hl9) ?_
    refine x_opp rfl rfl ?_
    refine x_kcg rfl ?_
    refine x_kcg rfl ?_
    refine a_callS rfl rfl rfl rfl (k_in ?_)
    refine a_ifF rfl rfl br_eqz (by first | exact hin | exact nt_f hin | exact tnf hin | exact fnt hin | exact Int32.not_lt.mp hin | exact Int32.not_le.mp hin | exact Int32.not_lt.mpr hin | exact Int32.not_le.mpr hin) ?_
    refine x_opp rfl rfl ?_
    refine x_kcg rfl ?_
    refine a_icF rfl rfl br_eq (by decide) ?_
    refine x_opp rfl rfl ?_
    refine a_ifT rfl rfl br_eqz (by decide) ?_
    refine x_opp rfl rfl ?_
    refine x_kcg rfl ?_
    refine a_icF rfl rfl br_ne (fun h => h rfl) ?_
    refine x_opp rfl rfl ?_
    refine m_getg (s_65 dy) rfl rfl rfl ?_
    refine x_opp rfl rfl ?_
    refine a_baldN (s_80 dy) (k := l) rfl rfl rfl (by omega) (by decide) ?_
    refine a_ifF rfl rfl br_eq (by first | exact d4 | exact nt_f d4 | exact tnf d4 | exact fnt d4 | exact Int32.not_lt.mp d4 | exact Int32.not_le.mp d4 | exact Int32.not_lt.mpr d4 | exact Int32.not_le.mpr d4) ?_
    refine x_opp rfl rfl ?_
    refine x_kcg rfl ?_
    refine a_callV (s_65 dy) rfl rfl rfl rfl (k_met (vp_in_nI (n := 1) (by decide) (by decide)) ?_)
    refine x_go rfl ?_
    refine a_iret rfl rfl rfl ?_
    subst hM4; subst hM3; subst hM1
    exact ⟨rfl, _, rfl, R_fd (k := 1) (by decide) hR⟩
  | false =>
    have m5 : decide (M1.1 1 5 ≠ 0) = false := decide_eq_false (fun q => q h51)
    have k4 : M2.1 65 9 = nI n := by subst hM2; subst hM1; exact hn2
    have d4 : M2.1 80 l = 0 := by
      have : M2.1 80 l = M.1 80 l := by subst hM2; subst hM1; rfl
      rw [this]; exact zz_e0 q5 hd
    have k75 : M2.1 75 l = nI (lK (E l)) := by subst hM2; subst hM1; exact q75
    refine x_opp rfl rfl ?_
    refine m_getg (s_0 dy) rfl rfl rfl ?_
    refine a_callV (s_1 dy) rfl rfl rfl rfl (c_clear (s_1 dy) ?_)
    refine x_opp rfl rfl ?_
    refine m_getg (s_0 dy) rfl rfl rfl ?_
    refine x_opp rfl rfl ?_
    rw [hM1]
    refine a_callV (s_4 dy) rfl rfl rfl rfl (c_made c43 ?_)
    refine a_ifF rfl rfl br_eqz (by first | exact hl9 | exact nt_f hl9 | exact tnf hl9 | exact fnt hl9 | exact Int32.not_lt.mp hl9 | exact Int32.not_le.mp hl9 | exact Int32.not_lt.mpr hl9 | exact Int32.not_le.mpr hl9) ?_
    refine x_opp rfl rfl ?_
    refine a_ifF rfl rfl br_lt (by decide) ?_
    refine x_opp rfl rfl ?_
    refine x_kcg rfl ?_
    refine a_icF rfl rfl br_gt (by decide) ?_
    refine x_opp rfl rfl ?_
    refine x_kcg rfl ?_
    refine a_icT rfl rfl br_ne (by decide) ?_
    refine x_opp rfl rfl ?_
    refine a_ifF rfl rfl br_eq (by decide) ?_
    refine x_opp rfl rfl ?_
    refine x_kcg rfl ?_
    refine a_icT rfl rfl br_ne (by decide) ?_
    refine x_opp rfl rfl ?_
    refine m_getg (s_0 dy) rfl rfl rfl ?_
    refine x_opp rfl rfl ?_
    refine a_callV (s_4 dy) rfl rfl rfl rfl (c_wantR hE hl hs1 hd ?_)
    refine x_opp rfl rfl ?_
    refine x_opp rfl rfl ?_
    refine x_ifnonR ?_
    iterate 3 (refine x_opp rfl rfl ?_)
    refine a_callS rfl rfl rfl rfl (c_askK hl hs1 ?_)
    refine x_go rfl ?_
    refine x_opp rfl rfl ?_
    refine x_opp rfl rfl ?_
    refine m_getg (s_0 dy) rfl rfl rfl ?_
    refine a_callV (s_1 dy) rfl rfl rfl rfl (c_met (s_1 dy) ?_)
    refine a_ifT rfl rfl br_eqz (by first | exact m5 | exact nt_f m5 | exact tnf m5 | exact fnt m5 | exact Int32.not_lt.mp m5 | exact Int32.not_le.mp m5 | exact Int32.not_lt.mpr m5 | exact Int32.not_le.mpr m5) ?_
    refine x_opp rfl rfl ?_
    refine x_go rfl ?_
    refine a_iret rfl rfl rfl ?_
    refine ⟨_, dy, _, rfl, rfl, ?_⟩
    refine e_intro rfl rfl ?_
    refine l_mask ?_
    rw [hM2]
    iterate 3 (refine x_opp rfl rfl ?_)
    refine a_callV (s_65 dy) rfl rfl rfl rfl (k_made hn16 k4 ?_)
    refine a_ifF rfl rfl br_eqz (by first | exact hl9 | exact nt_f hl9 | exact tnf hl9 | exact fnt hl9 | exact Int32.not_lt.mp hl9 | exact Int32.not_le.mp hl9 | exact Int32.not_lt.mpr hl9 | exact Int32.not_le.mpr hl9) ?_
    refine x_opp rfl rfl ?_
    refine x_kcg rfl ?_
    refine x_kcg rfl ?_
    refine a_callS rfl rfl rfl rfl (k_in ?_)
    refine a_ifF rfl rfl br_eqz (by first | exact hin | exact nt_f hin | exact tnf hin | exact fnt hin | exact Int32.not_lt.mp hin | exact Int32.not_le.mp hin | exact Int32.not_lt.mpr hin | exact Int32.not_le.mpr hin) ?_
    refine x_opp rfl rfl ?_
    refine x_kcg rfl ?_
    refine a_icF rfl rfl br_eq (by decide) ?_
    refine x_opp rfl rfl ?_
    refine a_ifT rfl rfl br_eqz (by decide) ?_
    refine x_opp rfl rfl ?_
    refine x_kcg rfl ?_
    refine a_icF rfl rfl br_ne (fun h => h rfl) ?_
    refine x_opp rfl rfl ?_
    refine m_getg (s_65 dy) rfl rfl rfl ?_
    refine x_opp rfl rfl ?_
    refine a_baldN (s_80 dy) (k := l) rfl rfl rfl (by omega) (by decide) ?_
    refine a_ifT rfl rfl br_eq (by first | exact d4 | exact nt_f d4 | exact tnf d4 | exact fnt d4 | exact Int32.not_lt.mp d4 | exact Int32.not_le.mp d4 | exact Int32.not_lt.mpr d4 | exact Int32.not_le.mpr d4) ?_
    refine x_opp rfl rfl ?_
    refine m_getg (s_65 dy) rfl rfl rfl ?_
    refine x_opp rfl rfl ?_
    refine a_ialdN (s_75 dy) (k := l) rfl rfl rfl (by omega) (by decide) ?_
    refine x_go rfl ?_
    rw [k75]
    refine a_iret rfl rfl rfl ?_
    subst hM2; subst hM1; exact ⟨rfl, _, rfl, R_cl hR⟩
set_option maxRecDepth 4000 in
theorem p_ask {v a : Int32} {o : Int64} (ht : t ≤ 512) (h : rR t dy M) : pr L xs t dy M 47 170 [.int v, .int a, .long o] := by
  have h0 := h
  have hR := h; obtain ⟨s, E, P, w, n, hG, hN, hL, hS, hQ⟩ := h; have z0 : (0 : Int32) = 0 := rfl; have z1 : (0 : Int32) ≤ 0 := (by decide); have z11 : ¬ (1 : Int32) = 0 := (by decide); have z12 : ¬ (1 : Int32) ≤ 0 := (by decide); obtain ⟨M1, hM1⟩ : ∃ M1, m_setI M 1 5 0 = M1 := ⟨_, rfl⟩; have g1 : rG M1 n := hM1 ▸ rG_c hG; obtain ⟨M2, hM2⟩ : ∃ M2, m_setI M1 65 19 0 = M2 := ⟨_, rfl⟩; have g2 : rG M2 n := hM2 ▸ rG_z g1
  have hn16 : n ≤ 16 := hL.1.1
  have hn2 : M.1 65 9 = nI n := hL.2.2.2.1
  have c43 : M1.1 4 3 = nI n := by subst hM1; exact hL.2.1.1
  have k4 : M2.1 65 9 = nI n := by subst hM2; subst hM1; exact hn2
  by_cases hv : gRow (nI n) v = true
  · obtain ⟨l, hl, rfl⟩ := gRow_nn hn16 hv
    have hln : ∀ m, M.1 65 9 = nI m → m ≤ 16 → l < m := fun m e q => by
      rw [hn2, nI_eq (by omega) (by omega)] at e
      omega
    by_cases a0 : a = 0
    · subst a0
      by_cases hw : decide (lenU o 26 ≠ 0) = true
      · exact p_ask0 ht h0 hln hw
      · unfold pr; refine e_intro rfl rfl ?_
        refine x_opp rfl rfl ?_
        refine m_getg (s_0 dy) rfl rfl rfl ?_
        refine a_callV (s_1 dy) rfl rfl rfl rfl (c_clear (s_1 dy) ?_)
        refine x_opp rfl rfl ?_
        refine m_getg (s_0 dy) rfl rfl rfl ?_
        refine x_opp rfl rfl ?_
        rw [hM1]
        refine a_callV (s_4 dy) rfl rfl rfl rfl (c_made c43 ?_)
        refine a_ifF rfl rfl br_eqz (by first | exact hv | exact nt_f hv | exact tnf hv | exact fnt hv | exact Int32.not_lt.mp hv | exact Int32.not_le.mp hv | exact Int32.not_lt.mpr hv | exact Int32.not_le.mpr hv) ?_
        refine x_opp rfl rfl ?_
        refine a_ifF rfl rfl br_lt (by decide) ?_
        refine x_opp rfl rfl ?_
        refine x_kcg rfl ?_
        refine a_icF rfl rfl br_gt (by decide) ?_
        refine x_opp rfl rfl ?_
        refine x_kcg rfl ?_
        refine a_icT rfl rfl br_ne (by decide) ?_
        refine x_opp rfl rfl ?_
        refine a_ifT rfl rfl br_eq (by decide) ?_
        refine x_opp rfl rfl ?_
        refine a_callS rfl rfl rfl rfl (c_isWord ?_)
        refine a_ifF rfl rfl br_nez (by first | exact hw | exact nt_f hw | exact tnf hw | exact fnt hw | exact Int32.not_lt.mp hw | exact Int32.not_le.mp hw | exact Int32.not_lt.mpr hw | exact Int32.not_le.mpr hw) ?_
        refine x_kcg rfl ?_
        refine a_iret rfl rfl rfl ?_
        refine ⟨_, dy, _, rfl, rfl, ?_⟩
        refine e_intro rfl rfl ?_
        refine l_mask ?_
        rw [hM2]
        iterate 3 (refine x_opp rfl rfl ?_)
        refine a_callV (s_65 dy) rfl rfl rfl rfl (k_made hn16 k4 ?_)
        refine a_ifF rfl rfl br_eqz (by first | exact hv | exact nt_f hv | exact tnf hv | exact fnt hv | exact Int32.not_lt.mp hv | exact Int32.not_le.mp hv | exact Int32.not_lt.mpr hv | exact Int32.not_le.mpr hv) ?_
        refine x_opp rfl rfl ?_
        refine x_kcg rfl ?_
        refine x_kcg rfl ?_
        refine a_callS rfl rfl rfl rfl (k_in ?_)
        refine a_ifF rfl rfl br_eqz (by decide) ?_
        refine x_opp rfl rfl ?_
        refine x_kcg rfl ?_
        refine a_icF rfl rfl br_eq (by decide) ?_
        refine x_opp rfl rfl ?_
        refine a_ifF rfl rfl br_eqz (tnf rfl) ?_
        refine x_opp rfl rfl ?_
        refine x_kcg rfl ?_
        refine a_callS rfl rfl rfl rfl (k_isWord (t := 26) (by decide) ?_)
        refine a_ifF rfl rfl br_nez (by first | exact hw | exact nt_f hw | exact tnf hw | exact fnt hw | exact Int32.not_lt.mp hw | exact Int32.not_le.mp hw | exact Int32.not_lt.mpr hw | exact Int32.not_le.mpr hw) ?_
        refine x_kcg rfl ?_
        refine a_iret rfl rfl rfl ?_
        subst hM2; subst hM1; exact ⟨rfl, _, rfl, R_cl hR⟩
    · by_cases a3 : a = 3
      · subst a3
        by_cases hw : decide (lenU o 26 ≠ 0) = true
        · exact p_ask3 ht h0 hln hw
        · unfold pr; refine e_intro rfl rfl ?_
          refine x_opp rfl rfl ?_
          refine m_getg (s_0 dy) rfl rfl rfl ?_
          refine a_callV (s_1 dy) rfl rfl rfl rfl (c_clear (s_1 dy) ?_)
          refine x_opp rfl rfl ?_
          refine m_getg (s_0 dy) rfl rfl rfl ?_
          refine x_opp rfl rfl ?_
          rw [hM1]
          refine a_callV (s_4 dy) rfl rfl rfl rfl (c_made c43 ?_)
          refine a_ifF rfl rfl br_eqz (by first | exact hv | exact nt_f hv | exact tnf hv | exact fnt hv | exact Int32.not_lt.mp hv | exact Int32.not_le.mp hv | exact Int32.not_lt.mpr hv | exact Int32.not_le.mpr hv) ?_
          refine x_opp rfl rfl ?_
          refine a_ifF rfl rfl br_lt (by decide) ?_
          refine x_opp rfl rfl ?_
          refine x_kcg rfl ?_
          refine a_icF rfl rfl br_gt (by decide) ?_
          refine x_opp rfl rfl ?_
          refine x_kcg rfl ?_
          refine a_icT rfl rfl br_ne (by decide) ?_
          refine x_opp rfl rfl ?_
          refine a_ifF rfl rfl br_eq (by decide) ?_
          refine x_opp rfl rfl ?_
          refine x_kcg rfl ?_
          refine a_icF rfl rfl br_ne (fun h => h rfl) ?_
          refine x_opp rfl rfl ?_
          refine a_callS rfl rfl rfl rfl (c_isWord ?_)
          refine a_ifF rfl rfl br_nez (by first | exact hw | exact nt_f hw | exact tnf hw | exact fnt hw | exact Int32.not_lt.mp hw | exact Int32.not_le.mp hw | exact Int32.not_lt.mpr hw | exact Int32.not_le.mpr hw) ?_
          refine x_kcg rfl ?_
          refine a_iret rfl rfl rfl ?_
          refine ⟨_, dy, _, rfl, rfl, ?_⟩
          refine e_intro rfl rfl ?_
          refine l_mask ?_
          rw [hM2]
          iterate 3 (refine x_opp rfl rfl ?_)
          refine a_callV (s_65 dy) rfl rfl rfl rfl (k_made hn16 k4 ?_)
          refine a_ifF rfl rfl br_eqz (by first | exact hv | exact nt_f hv | exact tnf hv | exact fnt hv | exact Int32.not_lt.mp hv | exact Int32.not_le.mp hv | exact Int32.not_lt.mpr hv | exact Int32.not_le.mpr hv) ?_
          refine x_opp rfl rfl ?_
          refine x_kcg rfl ?_
          refine x_kcg rfl ?_
          refine a_callS rfl rfl rfl rfl (k_in ?_)
          refine a_ifF rfl rfl br_eqz (by decide) ?_
          refine x_opp rfl rfl ?_
          refine x_kcg rfl ?_
          refine a_icF rfl rfl br_eq (by decide) ?_
          refine x_opp rfl rfl ?_
          refine a_ifF rfl rfl br_eqz (tnf rfl) ?_
          refine x_opp rfl rfl ?_
          refine x_kcg rfl ?_
          refine a_callS rfl rfl rfl rfl (k_isWord (t := 26) (by decide) ?_)
          refine a_ifF rfl rfl br_nez (by first | exact hw | exact nt_f hw | exact tnf hw | exact fnt hw | exact Int32.not_lt.mp hw | exact Int32.not_le.mp hw | exact Int32.not_lt.mpr hw | exact Int32.not_le.mpr hw) ?_
          refine x_kcg rfl ?_
          refine a_iret rfl rfl rfl ?_
          subst hM2; subst hM1; exact ⟨rfl, _, rfl, R_cl hR⟩
      · by_cases a1 : a = 1
        · subst a1
          exact p_ask1 ht h0 hln
        · by_cases a4 : a = 4
          · subst a4
            exact p_ask4 h0 hln
          · by_cases a2 : a = 2
            · subst a2
              unfold pr; refine e_intro rfl rfl ?_
              refine x_opp rfl rfl ?_
              refine m_getg (s_0 dy) rfl rfl rfl ?_
              refine a_callV (s_1 dy) rfl rfl rfl rfl (c_clear (s_1 dy) ?_)
              refine x_opp rfl rfl ?_
              refine m_getg (s_0 dy) rfl rfl rfl ?_
              refine x_opp rfl rfl ?_
              rw [hM1]
              refine a_callV (s_4 dy) rfl rfl rfl rfl (c_made c43 ?_)
              refine a_ifF rfl rfl br_eqz (by first | exact hv | exact nt_f hv | exact tnf hv | exact fnt hv | exact Int32.not_lt.mp hv | exact Int32.not_le.mp hv | exact Int32.not_lt.mpr hv | exact Int32.not_le.mpr hv) ?_
              refine x_opp rfl rfl ?_
              refine a_ifF rfl rfl br_lt (by decide) ?_
              refine x_opp rfl rfl ?_
              refine x_kcg rfl ?_
              refine a_icF rfl rfl br_gt (by decide) ?_
              refine x_opp rfl rfl ?_
              refine x_kcg rfl ?_
              refine a_icF rfl rfl br_ne (fun h => h rfl) ?_
              refine x_kcg rfl ?_
              refine a_iret rfl rfl rfl ?_
              refine ⟨_, dy, _, rfl, rfl, ?_⟩
              refine e_intro rfl rfl ?_
              refine l_mask ?_
              rw [hM2]
              iterate 3 (refine x_opp rfl rfl ?_)
              refine a_callV (s_65 dy) rfl rfl rfl rfl (k_made hn16 k4 ?_)
              refine a_ifF rfl rfl br_eqz (by first | exact hv | exact nt_f hv | exact tnf hv | exact fnt hv | exact Int32.not_lt.mp hv | exact Int32.not_le.mp hv | exact Int32.not_lt.mpr hv | exact Int32.not_le.mpr hv) ?_
              refine x_opp rfl rfl ?_
              refine x_kcg rfl ?_
              refine x_kcg rfl ?_
              refine a_callS rfl rfl rfl rfl (k_in ?_)
              refine a_ifF rfl rfl br_eqz (by decide) ?_
              refine x_opp rfl rfl ?_
              refine x_kcg rfl ?_
              refine a_icT rfl rfl br_eq (by decide) ?_
              refine x_kcg rfl ?_
              refine a_iret rfl rfl rfl ?_
              subst hM2; subst hM1; exact ⟨rfl, _, rfl, R_cl hR⟩
            · have hin : ¬ inR a 0 4 = true := by
                intro hu
                have u0 : ¬ a < 0 := fun h => by unfold inR at hu; rw [if_pos h] at hu; cases hu
                have u4 : a ≤ 4 := by
                  unfold inR at hu
                  rw [if_neg u0] at hu
                  by_cases q : (4 : Int32) < a
                  · rw [if_pos q] at hu; cases hu
                  · exact Int32.not_lt.mp q
                obtain ⟨w', hw, rfl⟩ := nI_ofm (m := 4) u0 u4 (by decide)
                rcases (show w' = 0 ∨ w' = 1 ∨ w' = 2 ∨ w' = 3 ∨ w' = 4 by omega) with rfl | rfl | rfl | rfl | rfl
                · exact a0 rfl
                · exact a1 rfl
                · exact a2 rfl
                · exact a3 rfl
                · exact a4 rfl
              have fin : sm_E L xs 100 170 [.ref 65, .int (nI l), .int a, .long o] (wm (sh0 ++ dy) M1) (fun r w => r = some (.int (-1)) ∧ ∃ M2, w = wm (sh0 ++ dy) M2 ∧ rR (t + 1) dy M2) := by
                refine e_intro rfl rfl ?_
                refine l_mask ?_
                rw [hM2]
                iterate 3 (refine x_opp rfl rfl ?_)
                refine a_callV (s_65 dy) rfl rfl rfl rfl (k_made hn16 k4 ?_)
                refine a_ifF rfl rfl br_eqz (by first | exact hv | exact nt_f hv | exact tnf hv | exact fnt hv | exact Int32.not_lt.mp hv | exact Int32.not_le.mp hv | exact Int32.not_lt.mpr hv | exact Int32.not_le.mpr hv) ?_
                refine x_opp rfl rfl ?_
                refine x_kcg rfl ?_
                refine x_kcg rfl ?_
                refine a_callS rfl rfl rfl rfl (k_in ?_)
                refine a_ifT rfl rfl br_eqz (by first | exact hin | exact nt_f hin | exact tnf hin | exact fnt hin | exact Int32.not_lt.mp hin | exact Int32.not_le.mp hin | exact Int32.not_lt.mpr hin | exact Int32.not_le.mpr hin) ?_
                refine x_kcg rfl ?_
                refine a_iret rfl rfl rfl ?_
                subst hM2; subst hM1; exact ⟨rfl, _, rfl, R_cl hR⟩
              unfold pr; refine e_intro rfl rfl ?_
              by_cases u0 : a < 0
              · refine x_opp rfl rfl ?_
                refine m_getg (s_0 dy) rfl rfl rfl ?_
                refine a_callV (s_1 dy) rfl rfl rfl rfl (c_clear (s_1 dy) ?_)
                refine x_opp rfl rfl ?_
                refine m_getg (s_0 dy) rfl rfl rfl ?_
                refine x_opp rfl rfl ?_
                rw [hM1]
                refine a_callV (s_4 dy) rfl rfl rfl rfl (c_made c43 ?_)
                refine a_ifF rfl rfl br_eqz (by first | exact hv | exact nt_f hv | exact tnf hv | exact fnt hv | exact Int32.not_lt.mp hv | exact Int32.not_le.mp hv | exact Int32.not_lt.mpr hv | exact Int32.not_le.mpr hv) ?_
                refine x_opp rfl rfl ?_
                refine a_ifT rfl rfl br_lt (by first | exact u0 | exact nt_f u0 | exact tnf u0 | exact fnt u0 | exact Int32.not_lt.mp u0 | exact Int32.not_le.mp u0 | exact Int32.not_lt.mpr u0 | exact Int32.not_le.mpr u0) ?_
                refine x_kcg rfl ?_
                refine a_iret rfl rfl rfl ?_
                exact ⟨_, dy, _, rfl, rfl, fin⟩
              · have u4 : ¬ a ≤ 4 := fun q => hin (by unfold inR; rw [if_neg u0, if_neg (Int32.not_lt.mpr q)])
                refine x_opp rfl rfl ?_
                refine m_getg (s_0 dy) rfl rfl rfl ?_
                refine a_callV (s_1 dy) rfl rfl rfl rfl (c_clear (s_1 dy) ?_)
                refine x_opp rfl rfl ?_
                refine m_getg (s_0 dy) rfl rfl rfl ?_
                refine x_opp rfl rfl ?_
                rw [hM1]
                refine a_callV (s_4 dy) rfl rfl rfl rfl (c_made c43 ?_)
                refine a_ifF rfl rfl br_eqz (by first | exact hv | exact nt_f hv | exact tnf hv | exact fnt hv | exact Int32.not_lt.mp hv | exact Int32.not_le.mp hv | exact Int32.not_lt.mpr hv | exact Int32.not_le.mpr hv) ?_
                refine x_opp rfl rfl ?_
                refine a_ifF rfl rfl br_lt (by first | exact u0 | exact nt_f u0 | exact tnf u0 | exact fnt u0 | exact Int32.not_lt.mp u0 | exact Int32.not_le.mp u0 | exact Int32.not_lt.mpr u0 | exact Int32.not_le.mpr u0) ?_
                refine x_opp rfl rfl ?_
                refine x_kcg rfl ?_
                refine a_icT rfl rfl br_gt (by first | exact u4 | exact nt_f u4 | exact tnf u4 | exact fnt u4 | exact Int32.not_lt.mp u4 | exact Int32.not_le.mp u4 | exact Int32.not_lt.mpr u4 | exact Int32.not_le.mpr u4) ?_
                refine x_kcg rfl ?_
                refine a_iret rfl rfl rfl ?_
                exact ⟨_, dy, _, rfl, rfl, fin⟩
  · unfold pr; refine e_intro rfl rfl ?_
    refine x_opp rfl rfl ?_
    refine m_getg (s_0 dy) rfl rfl rfl ?_
    refine a_callV (s_1 dy) rfl rfl rfl rfl (c_clear (s_1 dy) ?_)
    refine x_opp rfl rfl ?_
    refine m_getg (s_0 dy) rfl rfl rfl ?_
    refine x_opp rfl rfl ?_
    rw [hM1]
    refine a_callV (s_4 dy) rfl rfl rfl rfl (c_made c43 ?_)
    refine a_ifT rfl rfl br_eqz (by first | exact hv | exact nt_f hv | exact tnf hv | exact fnt hv | exact Int32.not_lt.mp hv | exact Int32.not_le.mp hv | exact Int32.not_lt.mpr hv | exact Int32.not_le.mpr hv) ?_
    refine x_kcg rfl ?_
    refine a_iret rfl rfl rfl ?_
    refine ⟨_, dy, _, rfl, rfl, ?_⟩
    refine e_intro rfl rfl ?_
    refine l_mask ?_
    rw [hM2]
    iterate 3 (refine x_opp rfl rfl ?_)
    refine a_callV (s_65 dy) rfl rfl rfl rfl (k_made hn16 k4 ?_)
    refine a_ifT rfl rfl br_eqz (by first | exact hv | exact nt_f hv | exact tnf hv | exact fnt hv | exact Int32.not_lt.mp hv | exact Int32.not_le.mp hv | exact Int32.not_lt.mpr hv | exact Int32.not_le.mpr hv) ?_
    refine x_kcg rfl ?_
    refine a_iret rfl rfl rfl ?_
    subst hM2; subst hM1; exact ⟨rfl, _, rfl, R_cl hR⟩
theorem c_wdP {l B : Nat} {k : Int32} {f : Nat → Int32} {s0 : sh_T} (hE : lOK E n) (hl : l < n) (hd : lDr (E l) = false) (hs : cLs (sh0 ++ dy) M E P n) (tr : cTr M (B, f)) (h5 : M.1 1 5 = 0) (hq : ∀ M' x, wPo E l k M M' (B, f) x → Q (some (.long x)) (wm (sh0 ++ dy) M')) : sm_E L xs (d + 40) (mA2 (lK (E l))) [.ref (P l), .int k] (wm (sh0 ++ dy) M) Q := by
  have hn := hE.1
  exact e_up (show 0 + 2 * l + 6 ≤ d + 40 by omega) (c_word hE l hl hd 0 k M B f _ hs tr h5 (fun hz M' c' => hq M' _ (Or.inl ⟨hz, c', rfl⟩)) (fun hz M' x _ c' => hq M' x (Or.inr ⟨hz, c'⟩)))
set_option maxRecDepth 4000 in
theorem p_wordOf {v k : Int32} (ht : t ≤ 512) (h : rR t dy M) : pr L xs t dy M 66 179 [.int v, .int k] := by
  have hR := h; obtain ⟨s, E, P, w, n, hG, hN, hL, hS, hQ⟩ := h; have z0 : (0 : Int32) = 0 := rfl; have z1 : (0 : Int32) ≤ 0 := (by decide); have z11 : ¬ (1 : Int32) = 0 := (by decide); have z12 : ¬ (1 : Int32) ≤ 0 := (by decide); obtain ⟨M1, hM1⟩ : ∃ M1, m_setI M 1 5 0 = M1 := ⟨_, rfl⟩; have g1 : rG M1 n := hM1 ▸ rG_c hG; obtain ⟨M2, hM2⟩ : ∃ M2, m_setI M1 65 19 0 = M2 := ⟨_, rfl⟩; have g2 : rG M2 n := hM2 ▸ rG_z g1
  have hn16 : n ≤ 16 := hL.1.1
  have hn2 : M.1 65 9 = nI n := hL.2.2.2.1
  have c43 : M1.1 4 3 = nI n := by subst hM1; exact hL.2.1.1
  have k42 : M2.1 65 9 = nI n := by subst hM2; subst hM1; exact hn2
  unfold pr; refine e_intro rfl rfl ?_
  by_cases hv : gRow (nI n) v = true
  · obtain ⟨l, hl, rfl⟩ := gRow_nn hn16 hv
    obtain ⟨B, f⟩ := s
    have hE := hL.1
    have hB : B ≤ 204120 * t := hN.2.2.2.2
    have hs1 : cLs (sh0 ++ dy) M1 E P n := by subst hM1; exact (rL_fr (M' := m_setI M 1 5 0) hL (fun a i h => by repeat (first | rw [mI_at, if_neg (by omega)] | rw [mA_at, if_neg (by omega)] | rw [mL_1] | rw [mR_1])) (fun _ _ => rfl) rfl).2.1
    have tr1 : cTr M1 (B, f) := by subst hM1; exact hN.1
    have h51 : M1.1 1 5 = 0 := by subst hM1; rfl
    have hlen : (askF E l 2 k.toInt64).1.length ≤ 60 := by
      have := ask_len hE hL.2.2.2.2.1 l hl 2 k.toInt64
      have := (hL.2.2.2.2.2.1 l hl).1
      omega
    have tail : ∀ M3 x, wPo E l k M1 M3 (B, f) x → sm_X L xs 99 66 5 (sm_code 66 5) [(0, .ref 0)] [.long x] (wm (sh0 ++ dy) M3) (fun r w => ∃ v dy1 M1, r = some v ∧ w = wm (sh0 ++ dy1) M1 ∧ sm_E L xs 100 179 (.ref 65 :: [.int (nI l), .int k]) (wm (sh0 ++ dy1) M1) (fun r w => r = some v ∧ ∃ M2, w = wm (sh0 ++ dy1) M2 ∧ rR (t + 1) dy1 M2)) := by
      intro M3 x hP
      have fr3 : (∀ a i, a ≠ 1 → a ≠ 2 → a ≠ 3 → M3.1 a i = M.1 a i) ∧ M3.2 = M.2 := by
        subst hM1
        rcases hP with ⟨-, c, -⟩ | ⟨-, c⟩
        · exact ⟨fun a i h1 h2 _ => by rw [c.2.1 a h1 h2, mI_ne _ _ _ h1], c.1⟩
        · exact ⟨fun a i h1 h2 h3 => by rw [c.2.1 a h1 h2 h3, mI_ne _ _ _ h1], c.1⟩
      have k4 : (m_setI M3 65 19 0).1 65 9 = nI n := by rw [mI_at, if_neg (by decide), fr3.1 _ _ (by decide) (by decide) (by decide)]; exact hn2
      have ls4 : mLs (m_setI M3 65 19 0) E n := (rL_fr hL (M' := m_setI M3 65 19 0) (fun a i h => by
        by_cases q : a = 1 ∨ a = 2 ∨ a = 3
        · omega
        · rw [mI_at, if_neg (by omega), fr3.1 a i (by omega) (by omega) (by omega)]) (fun a _ => by rw [mI_2, fr3.2]) (by rw [mI_2, fr3.2])).2.2.1
      have tr4 : mTr (m_setI M3 65 19 0) (B, f) := ⟨by rw [mI_at, if_neg (by decide), fr3.1 _ _ (by decide) (by decide) (by decide)]; exact hN.2.1.1, fun i hi => by rw [mI_ne _ _ _ (by decide), fr3.1 _ _ (by decide) (by decide) (by decide)]; exact hN.2.1.2 i hi⟩
      rcases hP with ⟨hz, c3, hx⟩ | ⟨hz, c3⟩
      · have m5 : decide (M3.1 1 5 ≠ 0) = false := decide_eq_false (fun q => q (by rw [c3.2.2.1]; exact h51))
        refine x_opp rfl rfl ?_
        refine x_opp rfl rfl ?_
        refine m_getg (s_0 dy) rfl rfl rfl ?_
        refine a_callV (s_1 dy) rfl rfl rfl rfl (c_met (s_1 dy) ?_)
        refine a_ifT rfl rfl br_eqz (by first | exact m5 | exact nt_f m5 | exact tnf m5 | exact fnt m5 | exact Int32.not_lt.mp m5 | exact Int32.not_le.mp m5 | exact Int32.not_lt.mpr m5 | exact Int32.not_le.mpr m5) ?_
        refine x_opp rfl rfl ?_
        refine x_go rfl ?_
        refine a_lret rfl rfl ?_
        refine ⟨_, dy, _, rfl, rfl, ?_⟩; refine e_intro rfl rfl ?_
        refine x_opp rfl rfl ?_
        refine x_kcg rfl ?_
        refine a_putJ 19 (s_65 dy) rfl rfl rfl rfl ?_
        refine x_opp rfl rfl ?_
        refine x_opp rfl rfl ?_
        refine a_callV (s_65 dy) rfl rfl rfl rfl (k_made hn16 k4 ?_)
        refine a_ifT rfl rfl br_nez (by first | exact hv | exact nt_f hv | exact tnf hv | exact fnt hv | exact Int32.not_lt.mp hv | exact Int32.not_le.mp hv | exact Int32.not_lt.mpr hv | exact Int32.not_le.mpr hv) ?_
        refine x_opp rfl rfl ?_
        refine x_opp rfl rfl ?_
        refine x_kcg rfl ?_
        refine x_opp rfl rfl ?_
        refine x_opp rfl rfl ?_
        refine a_callV (s_65 dy) rfl rfl rfl rfl (k_asks2 (act := 2) hE hl (by decide) ls4 tr4 (by omega) (fun M4 b a4 hP => ?_))
        rcases hP with ⟨rfl, -, hg⟩ | ⟨-, q, -⟩
        · refine a_ifF rfl rfl br_eqz (by decide) ?_
          refine x_opp rfl rfl ?_
          refine m_getg (s_65 dy) rfl rfl rfl ?_
          refine x_go rfl ?_
          refine a_lret rfl rfl ?_
          subst hM1
          exact ⟨by rw [hx, hg], _, rfl, R_ask hG hN hL hS hQ c3 a4 (by omega)⟩
        · exact absurd hz q
      · have hk2 := askF_fd hE l hl 2 k.toInt64
        have m5 : decide (M3.1 1 5 ≠ 0) = true := decide_eq_true (by rw [c3.2.2.1]; exact nI_ne0 (by omega) (by omega))
        refine x_opp rfl rfl ?_
        refine x_opp rfl rfl ?_
        refine m_getg (s_0 dy) rfl rfl rfl ?_
        refine a_callV (s_1 dy) rfl rfl rfl rfl (c_met (s_1 dy) ?_)
        refine a_ifF rfl rfl br_eqz (by first | exact m5 | exact nt_f m5 | exact tnf m5 | exact fnt m5 | exact Int32.not_lt.mp m5 | exact Int32.not_le.mp m5 | exact Int32.not_lt.mpr m5 | exact Int32.not_le.mpr m5) ?_
        refine x_opp rfl rfl ?_
        refine x_go rfl ?_
        refine a_lret rfl rfl ?_
        refine ⟨_, dy, _, rfl, rfl, ?_⟩; refine e_intro rfl rfl ?_
        refine x_opp rfl rfl ?_
        refine x_kcg rfl ?_
        refine a_putJ 19 (s_65 dy) rfl rfl rfl rfl ?_
        refine x_opp rfl rfl ?_
        refine x_opp rfl rfl ?_
        refine a_callV (s_65 dy) rfl rfl rfl rfl (k_made hn16 k4 ?_)
        refine a_ifT rfl rfl br_nez (by first | exact hv | exact nt_f hv | exact tnf hv | exact fnt hv | exact Int32.not_lt.mp hv | exact Int32.not_le.mp hv | exact Int32.not_lt.mpr hv | exact Int32.not_le.mpr hv) ?_
        refine x_opp rfl rfl ?_
        refine x_opp rfl rfl ?_
        refine x_kcg rfl ?_
        refine x_opp rfl rfl ?_
        refine x_opp rfl rfl ?_
        refine a_callV (s_65 dy) rfl rfl rfl rfl (k_asks2 (act := 2) hE hl (by decide) ls4 tr4 (by omega) (fun M4 b a4 hP => ?_))
        rcases hP with ⟨-, q, -⟩ | ⟨rfl, -, hg⟩
        · exact absurd q hz
        · refine a_ifT rfl rfl br_eqz rfl ?_
          refine x_opp rfl rfl ?_
          refine x_opp rfl rfl ?_
          refine m_getg (s_65 dy) rfl rfl rfl ?_
          rw [hg]
          refine a_callV (s_65 dy) rfl rfl rfl rfl (k_metLong (vp_in_nI (show (askF E l 2 k.toInt64).2.1 < 6 by omega) (by decide)) ?_)
          refine x_go rfl ?_
          refine a_lret rfl rfl ?_
          subst hM1
          exact ⟨rfl, _, rfl, R_askF (show (askF E l 2 k.toInt64).2.1 < 6 by omega) hG hN hL hS hQ c3 a4 (by omega)⟩
    cases hd : lDr (E l) with
    | true =>
      have ed := askF_dr hE hl hd 2 k.toInt64
      refine x_opp rfl rfl ?_
      refine m_getg (s_0 dy) rfl rfl rfl ?_
      refine a_callV (s_1 dy) rfl rfl rfl rfl (c_clear (s_1 dy) ?_)
      refine x_opp rfl rfl ?_
      refine m_getg (s_0 dy) rfl rfl rfl ?_
      refine x_opp rfl rfl ?_
      rw [hM1]
      refine a_callV (s_4 dy) rfl rfl rfl rfl (c_made c43 ?_)
      refine a_ifT rfl rfl br_nez (by first | exact hv | exact nt_f hv | exact tnf hv | exact fnt hv | exact Int32.not_lt.mp hv | exact Int32.not_le.mp hv | exact Int32.not_lt.mpr hv | exact Int32.not_le.mpr hv) ?_
      refine x_opp rfl rfl ?_
      refine m_getg (s_0 dy) rfl rfl rfl ?_
      refine x_opp rfl rfl ?_
      refine a_callV (s_4 dy) rfl rfl rfl rfl (c_wantN hE hl hs1 hd ?_)
      refine x_opp rfl rfl ?_
      refine x_opp rfl rfl ?_
      refine x_ifnonN ?_
      refine x_opp rfl rfl ?_
      refine x_go rfl ?_
      refine x_lvs [(0, .ref 0)] rfl rfl rfl ⟨rfl, trivial⟩ ?_
      refine tail _ _ (Or.inr ⟨by rw [ed]; decide, ?_⟩)
      rw [ed]
      exact cff_find tr1 (by decide)
    | false =>
      obtain ⟨s0, hsh, hvt⟩ := cSh_v (hs1.2 l hl).2.1
      refine x_opp rfl rfl ?_
      refine m_getg (s_0 dy) rfl rfl rfl ?_
      refine a_callV (s_1 dy) rfl rfl rfl rfl (c_clear (s_1 dy) ?_)
      refine x_opp rfl rfl ?_
      refine m_getg (s_0 dy) rfl rfl rfl ?_
      refine x_opp rfl rfl ?_
      rw [hM1]
      refine a_callV (s_4 dy) rfl rfl rfl rfl (c_made c43 ?_)
      refine a_ifT rfl rfl br_nez (by first | exact hv | exact nt_f hv | exact tnf hv | exact fnt hv | exact Int32.not_lt.mp hv | exact Int32.not_le.mp hv | exact Int32.not_lt.mpr hv | exact Int32.not_le.mpr hv) ?_
      refine x_opp rfl rfl ?_
      refine m_getg (s_0 dy) rfl rfl rfl ?_
      refine x_opp rfl rfl ?_
      refine a_callV (s_4 dy) rfl rfl rfl rfl (c_wantR hE hl hs1 hd ?_)
      refine x_opp rfl rfl ?_
      refine x_opp rfl rfl ?_
      refine x_ifnonR ?_
      refine x_opp rfl rfl ?_
      refine x_opp rfl rfl ?_
      refine a_callV hsh rfl (hvt _ _ _).2.2.1 rfl rfl (c_wdP (s0 := s0) hE hl hd hs1 tr1 h51 (fun M3 x hP => ?_))
      refine x_go rfl ?_
      refine x_lvs [(0, .ref 0)] rfl rfl rfl ⟨rfl, trivial⟩ ?_
      exact tail M3 x hP
  · refine x_opp rfl rfl ?_
    refine m_getg (s_0 dy) rfl rfl rfl ?_
    refine a_callV (s_1 dy) rfl rfl rfl rfl (c_clear (s_1 dy) ?_)
    refine x_opp rfl rfl ?_
    refine m_getg (s_0 dy) rfl rfl rfl ?_
    refine x_opp rfl rfl ?_
    rw [hM1]
    refine a_callV (s_4 dy) rfl rfl rfl rfl (c_made c43 ?_)
    refine a_ifF rfl rfl br_nez (by first | exact hv | exact nt_f hv | exact tnf hv | exact fnt hv | exact Int32.not_lt.mp hv | exact Int32.not_le.mp hv | exact Int32.not_lt.mpr hv | exact Int32.not_le.mpr hv) ?_
    refine x_opp rfl rfl ?_
    refine a_lret rfl rfl ?_
    refine ⟨_, dy, _, rfl, rfl, ?_⟩; refine e_intro rfl rfl ?_
    refine x_opp rfl rfl ?_
    refine x_kcg rfl ?_
    refine a_putJ 19 (s_65 dy) rfl rfl rfl rfl ?_
    refine x_opp rfl rfl ?_
    refine x_opp rfl rfl ?_
    rw [hM2]
    refine a_callV (s_65 dy) rfl rfl rfl rfl (k_made hn16 k42 ?_)
    refine a_ifF rfl rfl br_nez (by first | exact hv | exact nt_f hv | exact tnf hv | exact fnt hv | exact Int32.not_lt.mp hv | exact Int32.not_le.mp hv | exact Int32.not_lt.mpr hv | exact Int32.not_le.mpr hv) ?_
    refine x_opp rfl rfl ?_
    refine a_lret rfl rfl ?_
    subst hM2; subst hM1; exact ⟨rfl, _, rfl, R_cl hR⟩
end AM
