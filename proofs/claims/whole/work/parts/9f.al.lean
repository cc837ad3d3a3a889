/-! pairs: lists are asked, three questions -/
section AL
variable {L : Nat} {xs : Nat → Int32} {t d : Nat} {dy : List sh_T} {M : mm_T} {Q : Option Value → sm_W → Prop} {G : Nat}
set_option maxRecDepth 4000 in
theorem p_ask0 {l : Nat} {o : Int64} (ht : t ≤ 512) (h : rR t dy M) (hln : ∀ n, M.1 65 9 = nI n → n ≤ 16 → l < n) (hw : decide (lenU o 26 ≠ 0) = true) : pr L xs t dy M 47 170 [.int (nI l), .int 0, .long o] := by
  have hR := h; obtain ⟨s, E, P, w, n, hG, hN, hL, hS, hQ⟩ := h; have z0 : (0 : Int32) = 0 := rfl; have z1 : (0 : Int32) ≤ 0 := (by decide); have z11 : ¬ (1 : Int32) = 0 := (by decide); have z12 : ¬ (1 : Int32) ≤ 0 := (by decide); obtain ⟨M1, hM1⟩ : ∃ M1, m_setI M 1 5 0 = M1 := ⟨_, rfl⟩; have g1 : rG M1 n := hM1 ▸ rG_c hG; obtain ⟨M2, hM2⟩ : ∃ M2, m_setI M1 65 19 0 = M2 := ⟨_, rfl⟩; have g2 : rG M2 n := hM2 ▸ rG_z g1
  have hn16 : n ≤ 16 := hL.1.1
  have hn2 : M.1 65 9 = nI n := hL.2.2.2.1
  have hl : l < n := hln n hn2 hn16
  unfold pr; refine e_intro rfl rfl ?_
  obtain ⟨B, f⟩ := s
  have hE := hL.1
  have hB : B ≤ 204120 * t := hN.2.2.2.2
  have c43 : M1.1 4 3 = nI n := by subst hM1; exact hL.2.1.1
  have hl9 : gRow (nI n) (nI l) = true := gRow_n hn16 hl
  have hin : inR 0 0 4 = true := by decide
  have hs1 : cLs (sh0 ++ dy) M1 E P n := by subst hM1; exact (rL_fr (M' := m_setI M 1 5 0) hL (fun a i h => by repeat (first | rw [mI_at, if_neg (by omega)] | rw [mA_at, if_neg (by omega)] | rw [mL_1] | rw [mR_1])) (fun _ _ => rfl) rfl).2.1
  have tr1 : cTr M1 (B, f) := by subst hM1; exact hN.1
  have h51 : M1.1 1 5 = 0 := by subst hM1; rfl
  have hlen : (askF E l 0 o).1.length ≤ 60 := by
    have := ask_len hE hL.2.2.2.2.1 l hl 0 o
    have := (hL.2.2.2.2.2.1 l hl).1
    omega
  have tail : ∀ M3 x, aPo E l 0 o M1 M3 (B, f) x → sm_X L xs 99 47 12 (sm_code 47 12) [(0, .ref 0)] [.int x] (wm (sh0 ++ dy) M3) (fun r w => ∃ v dy1 M1, r = some v ∧ w = wm (sh0 ++ dy1) M1 ∧ sm_E L xs 100 170 (.ref 65 :: [.int (nI l), .int 0, .long o]) (wm (sh0 ++ dy1) M1) (fun r w => r = some v ∧ ∃ M2, w = wm (sh0 ++ dy1) M2 ∧ rR (t + 1) dy1 M2)) := by
    intro M3 x hP
    have fr3 : (∀ a i, a ≠ 1 → a ≠ 2 → a ≠ 3 → M3.1 a i = M.1 a i) ∧ M3.2 = M.2 := by
      subst hM1
      rcases hP with ⟨-, c, -⟩ | ⟨-, c⟩
      · exact ⟨fun a i h1 h2 _ => by rw [c.2.1 a h1 h2, mI_ne _ _ _ h1], c.1⟩
      · exact ⟨fun a i h1 h2 h3 => by rw [c.2.1 a h1 h2 h3, mI_ne _ _ _ h1], c.1⟩
    have k4 : (m_setI M3 65 19 0).1 65 9 = nI n := by rw [mI_at, if_neg (by decide), fr3.1 _ _ (by decide) (by decide) (by decide)]; exact hn2
    have ls4 : mLs (m_setI M3 65 19 0) E n := (rL_fr hL (M' := m_setI M3 65 19 0) (fun a i h => by
      by_cases q : a = 1 ∨ a = 2 ∨ a = 3
      · omega
      · rw [mI_at, if_neg (by omega), fr3.1 a i (by omega) (by omega) (by omega)]) (fun a _ => by rw [mI_2, fr3.2]) (by rw [mI_2, fr3.2])).2.2.1
    have tr4 : mTr (m_setI M3 65 19 0) (B, f) := ⟨by rw [mI_at, if_neg (by decide), fr3.1 _ _ (by decide) (by decide) (by decide)]; exact hN.2.1.1, fun i hi => by rw [mI_ne _ _ _ (by decide), fr3.1 _ _ (by decide) (by decide) (by decide)]; exact hN.2.1.2 i hi⟩
    rcases hP with ⟨hz, c3, hx⟩ | ⟨hz, c3⟩
    · have m5 : decide (M3.1 1 5 ≠ 0) = false := decide_eq_false (fun q => q (by rw [c3.2.2.1]; exact h51))
      refine x_opp rfl rfl ?_
      refine x_opp rfl rfl ?_
      refine m_getg (s_0 dy) rfl rfl rfl ?_
      refine a_callV (s_1 dy) rfl rfl rfl rfl (c_met (s_1 dy) ?_)
      refine a_ifT rfl rfl br_eqz (by first | exact m5 | exact nt_f m5 | exact tnf m5 | exact fnt m5 | exact Int32.not_lt.mp m5 | exact Int32.not_le.mp m5 | exact Int32.not_lt.mpr m5 | exact Int32.not_le.mpr m5) ?_
      refine x_opp rfl rfl ?_
      refine x_go rfl ?_
      refine a_iret rfl rfl rfl ?_
      refine ⟨_, dy, _, rfl, rfl, ?_⟩; refine e_intro rfl rfl ?_
      refine x_opp rfl rfl ?_
      refine x_kcg rfl ?_
      refine a_putJ 19 (s_65 dy) rfl rfl rfl rfl ?_
      refine x_opp rfl rfl ?_
      refine a_ifT rfl rfl br_eq (by decide) ?_
      refine x_kcg rfl ?_
      refine x_go rfl ?_
      iterate 3 (refine x_opp rfl rfl ?_)
      refine a_callV (s_65 dy) rfl rfl rfl rfl (k_made hn16 k4 ?_)
      refine a_ifF rfl rfl br_eqz (by first | exact hl9 | exact nt_f hl9 | exact tnf hl9 | exact fnt hl9 | exact Int32.not_lt.mp hl9 | exact Int32.not_le.mp hl9 | exact Int32.not_lt.mpr hl9 | exact Int32.not_le.mpr hl9) ?_
      refine x_opp rfl rfl ?_
      refine x_kcg rfl ?_
      refine x_kcg rfl ?_
      refine a_callS rfl rfl rfl rfl (k_in ?_)
      refine a_ifF rfl rfl br_eqz (by first | exact hin | exact nt_f hin | exact tnf hin | exact fnt hin | exact Int32.not_lt.mp hin | exact Int32.not_le.mp hin | exact Int32.not_lt.mpr hin | exact Int32.not_le.mpr hin) ?_
      refine x_opp rfl rfl ?_
      refine x_kcg rfl ?_
      refine a_icF rfl rfl br_eq (by decide) ?_
      refine x_opp rfl rfl ?_
      refine a_ifF rfl rfl br_eq (by decide) ?_
      refine x_opp rfl rfl ?_
      refine x_kcg rfl ?_
      refine a_callS rfl rfl rfl rfl (k_isWord (t := 26) (by decide) ?_)
      refine a_ifT rfl rfl br_nez (by first | exact hw | exact nt_f hw | exact tnf hw | exact fnt hw | exact Int32.not_lt.mp hw | exact Int32.not_le.mp hw | exact Int32.not_lt.mpr hw | exact Int32.not_le.mpr hw) ?_
      refine x_opp rfl rfl ?_
      refine x_kcg rfl ?_
      refine a_icT rfl rfl br_ne (by decide) ?_
      iterate 4 (refine x_opp rfl rfl ?_)
      refine a_callV (s_65 dy) rfl rfl rfl rfl (k_asks2 (act := 0) hE hl (by decide) ls4 tr4 (by omega) (fun M4 b a4 hP => ?_))
      rcases hP with ⟨rfl, -, hg⟩ | ⟨-, q, -⟩
      · refine a_ifF rfl rfl br_eqz (by decide) ?_
        refine x_opp rfl rfl ?_
        refine m_getg (s_65 dy) rfl rfl rfl ?_
        refine x_opp rfl rfl ?_
        refine x_go rfl ?_
        refine a_iret rfl rfl rfl ?_
        subst hM1
        exact ⟨by rw [hx, hg], _, rfl, R_ask hG hN hL hS hQ c3 a4 (by omega)⟩
      · exact absurd hz q
    · have hk2 := askF_fd hE l hl 0 o
      have m5 : decide (M3.1 1 5 ≠ 0) = true := decide_eq_true (by rw [c3.2.2.1]; exact nI_ne0 (by omega) (by omega))
      refine x_opp rfl rfl ?_
      refine x_opp rfl rfl ?_
      refine m_getg (s_0 dy) rfl rfl rfl ?_
      refine a_callV (s_1 dy) rfl rfl rfl rfl (c_met (s_1 dy) ?_)
      refine a_ifF rfl rfl br_eqz (by first | exact m5 | exact nt_f m5 | exact tnf m5 | exact fnt m5 | exact Int32.not_lt.mp m5 | exact Int32.not_le.mp m5 | exact Int32.not_lt.mpr m5 | exact Int32.not_le.mpr m5) ?_
      refine x_opp rfl rfl ?_
      refine m_getg (s_0 dy) rfl rfl rfl ?_
      refine a_callV (s_1 dy) rfl rfl rfl rfl (c_answer (s_1 dy) ?_)
      refine x_go rfl ?_
      refine a_iret rfl rfl rfl ?_
      rw [c3.2.2.1]
      refine ⟨_, dy, _, rfl, rfl, ?_⟩; refine e_intro rfl rfl ?_
      refine x_opp rfl rfl ?_
      refine x_kcg rfl ?_
      refine a_putJ 19 (s_65 dy) rfl rfl rfl rfl ?_
      refine x_opp rfl rfl ?_
      refine a_ifT rfl rfl br_eq (by decide) ?_
      refine x_kcg rfl ?_
      refine x_go rfl ?_
      iterate 3 (refine x_opp rfl rfl ?_)
      refine a_callV (s_65 dy) rfl rfl rfl rfl (k_made hn16 k4 ?_)
      refine a_ifF rfl rfl br_eqz (by first | exact hl9 | exact nt_f hl9 | exact tnf hl9 | exact fnt hl9 | exact Int32.not_lt.mp hl9 | exact Int32.not_le.mp hl9 | exact Int32.not_lt.mpr hl9 | exact Int32.not_le.mpr hl9) ?_
      refine x_opp rfl rfl ?_
      refine x_kcg rfl ?_
      refine x_kcg rfl ?_
      refine a_callS rfl rfl rfl rfl (k_in ?_)
      refine a_ifF rfl rfl br_eqz (by first | exact hin | exact nt_f hin | exact tnf hin | exact fnt hin | exact Int32.not_lt.mp hin | exact Int32.not_le.mp hin | exact Int32.not_lt.mpr hin | exact Int32.not_le.mpr hin) ?_
      refine x_opp rfl rfl ?_
      refine x_kcg rfl ?_
      refine a_icF rfl rfl br_eq (by decide) ?_
      refine x_opp rfl rfl ?_
      refine a_ifF rfl rfl br_eq (by decide) ?_
      refine x_opp rfl rfl ?_
      refine x_kcg rfl ?_
      refine a_callS rfl rfl rfl rfl (k_isWord (t := 26) (by decide) ?_)
      refine a_ifT rfl rfl br_nez (by first | exact hw | exact nt_f hw | exact tnf hw | exact fnt hw | exact Int32.not_lt.mp hw | exact Int32.not_le.mp hw | exact Int32.not_lt.mpr hw | exact Int32.not_le.mpr hw) ?_
      refine x_opp rfl rfl ?_
      refine x_kcg rfl ?_
      refine a_icT rfl rfl br_ne (by decide) ?_
      iterate 4 (refine x_opp rfl rfl ?_)
      refine a_callV (s_65 dy) rfl rfl rfl rfl (k_asks2 (act := 0) hE hl (by decide) ls4 tr4 (by omega) (fun M4 b a4 hP => ?_))
      rcases hP with ⟨-, q, -⟩ | ⟨rfl, -, hg⟩
      · exact absurd q hz
      · refine a_ifT rfl rfl br_eqz rfl ?_
        refine x_opp rfl rfl ?_
        refine x_opp rfl rfl ?_
        refine m_getg (s_65 dy) rfl rfl rfl ?_
        rw [hg]
        refine a_callV (s_65 dy) rfl rfl rfl rfl (k_met (vp_in_nI (show (askF E l 0 o).2.1 < 6 by omega) (by decide)) ?_)
        refine x_go rfl ?_
        refine a_iret rfl rfl rfl ?_
        subst hM1
        exact ⟨rfl, _, rfl, R_askF (show (askF E l 0 o).2.1 < 6 by omega) hG hN hL hS hQ c3 a4 (by omega)⟩
  cases hd : lDr (E l) with
  | true =>
    have ed := askF_dr hE hl hd 0 o
    refine x_opp rfl rfl ?_
    refine m_getg (s_0 dy) rfl rfl rfl ?_
    refine a_callV (s_1 dy) rfl rfl rfl rfl (c_clear (s_1 dy) ?_)
    refine x_opp rfl rfl ?_
    refine m_getg (s_0 dy) rfl rfl rfl ?_
    refine x_opp rfl rfl ?_
    rw [hM1]
    refine a_callV (s_4 dy) rfl rfl rfl rfl (c_made c43 ?_)
    refine a_ifF rfl rfl br_eqz (by first | exact hl9 | exact nt_f hl9 | exact tnf hl9 | exact fnt hl9 | exact Int32.not_lt.mp hl9 | exact Int32.not_le.mp hl9 | exact Int32.not_lt.mpr hl9 | exact Int32.not_le.mpr hl9) ?_
    refine x_opp rfl rfl ?_
    refine a_ifF rfl rfl br_lt (by decide) ?_
    refine x_opp rfl rfl ?_
    refine x_kcg rfl ?_
    refine a_icF rfl rfl br_gt (by decide) ?_
    refine x_opp rfl rfl ?_
    refine x_kcg rfl ?_
    refine a_icT rfl rfl br_ne (by decide) ?_
    refine x_opp rfl rfl ?_
    refine a_ifT rfl rfl br_eq (by decide) ?_
    refine x_opp rfl rfl ?_
    refine a_callS rfl rfl rfl rfl (c_isWord ?_)
    refine a_ifT rfl rfl br_nez (by first | exact hw | exact nt_f hw | exact tnf hw | exact fnt hw | exact Int32.not_lt.mp hw | exact Int32.not_le.mp hw | exact Int32.not_lt.mpr hw | exact Int32.not_le.mpr hw) ?_
    refine x_opp rfl rfl ?_
    refine m_getg (s_0 dy) rfl rfl rfl ?_
    refine x_opp rfl rfl ?_
    refine a_callV (s_4 dy) rfl rfl rfl rfl (c_wantN hE hl hs1 hd ?_)
    refine x_opp rfl rfl ?_
    refine x_opp rfl rfl ?_
    refine x_ifnonN ?_
    refine x_kcg rfl ?_
    refine x_go rfl ?_
    refine x_lvs [(0, .ref 0)] rfl rfl rfl ⟨rfl, trivial⟩ ?_
    refine tail _ _ (Or.inr ⟨by rw [ed]; decide, ?_⟩)
    rw [ed]
    exact cff_find tr1 (by decide)
  | false =>
    refine x_opp rfl rfl ?_
    refine m_getg (s_0 dy) rfl rfl rfl ?_
    refine a_callV (s_1 dy) rfl rfl rfl rfl (c_clear (s_1 dy) ?_)
    refine x_opp rfl rfl ?_
    refine m_getg (s_0 dy) rfl rfl rfl ?_
    refine x_opp rfl rfl ?_
    rw [hM1]
    refine a_callV (s_4 dy) rfl rfl rfl rfl (c_made c43 ?_)
    refine a_ifF rfl rfl br_eqz (by first | exact hl9 | exact nt_f hl9 | exact tnf hl9 | exact fnt hl9 | exact Int32.not_lt.mp hl9 | exact Int32.not_le.mp hl9 | exact Int32.not_lt.mpr hl9 | exact Int32.not_le.mpr hl9) ?_
    refine x_opp rfl rfl ?_
    refine a_ifF rfl rfl br_lt (by decide) ?_
    refine x_opp rfl rfl ?_
    refine x_kcg rfl ?_
    refine a_icF rfl rfl br_gt (by decide) ?_
    refine x_opp rfl rfl ?_
    refine x_kcg rfl ?_
    refine a_icT rfl rfl br_ne (by decide) ?_
    refine x_opp rfl rfl ?_
    refine a_ifT rfl rfl br_eq (by decide) ?_
    refine x_opp rfl rfl ?_
    refine a_callS rfl rfl rfl rfl (c_isWord ?_)
    refine a_ifT rfl rfl br_nez (by first | exact hw | exact nt_f hw | exact tnf hw | exact fnt hw | exact Int32.not_lt.mp hw | exact Int32.not_le.mp hw | exact Int32.not_lt.mpr hw | exact Int32.not_le.mpr hw) ?_
    refine x_opp rfl rfl ?_
    refine m_getg (s_0 dy) rfl rfl rfl ?_
    refine x_opp rfl rfl ?_
    refine a_callV (s_4 dy) rfl rfl rfl rfl (c_wantR hE hl hs1 hd ?_)
    refine x_opp rfl rfl ?_
    refine x_opp rfl rfl ?_
    refine x_ifnonR ?_
    iterate 3 (refine x_opp rfl rfl ?_)
    refine a_callS rfl rfl rfl rfl (c_asked (act := 0) hE hl hd (by decide) (fun q => Or.inr (lenU_ne (t := 26) (by decide) (of_decide_eq_true hw))) hs1 tr1 h51 (fun M3 x hP => ?_))
    refine x_go rfl ?_
    refine x_lvs [(0, .ref 0)] rfl rfl rfl ⟨rfl, trivial⟩ ?_
    exact tail M3 x hP
set_option maxRecDepth 4000 in
theorem p_ask1 {l : Nat} {o : Int64} (ht : t ≤ 512) (h : rR t dy M) (hln : ∀ n, M.1 65 9 = nI n → n ≤ 16 → l < n) : pr L xs t dy M 47 170 [.int (nI l), .int 1, .long o] := by
  have hR := h; obtain ⟨s, E, P, w, n, hG, hN, hL, hS, hQ⟩ := h; have z0 : (0 : Int32) = 0 := rfl; have z1 : (0 : Int32) ≤ 0 := (by decide); have z11 : ¬ (1 : Int32) = 0 := (by decide); have z12 : ¬ (1 : Int32) ≤ 0 := (by decide); obtain ⟨M1, hM1⟩ : ∃ M1, m_setI M 1 5 0 = M1 := ⟨_, rfl⟩; have g1 : rG M1 n := hM1 ▸ rG_c hG; obtain ⟨M2, hM2⟩ : ∃ M2, m_setI M1 65 19 0 = M2 := ⟨_, rfl⟩; have g2 : rG M2 n := hM2 ▸ rG_z g1
  have hn16 : n ≤ 16 := hL.1.1
  have hn2 : M.1 65 9 = nI n := hL.2.2.2.1
  have hl : l < n := hln n hn2 hn16
  unfold pr; refine e_intro rfl rfl ?_
  obtain ⟨B, f⟩ := s
  have hE := hL.1
  have hB : B ≤ 204120 * t := hN.2.2.2.2
  have c43 : M1.1 4 3 = nI n := by subst hM1; exact hL.2.1.1
  have hl9 : gRow (nI n) (nI l) = true := gRow_n hn16 hl
  have hin : inR 1 0 4 = true := by decide
  have hs1 : cLs (sh0 ++ dy) M1 E P n := by subst hM1; exact (rL_fr (M' := m_setI M 1 5 0) hL (fun a i h => by repeat (first | rw [mI_at, if_neg (by omega)] | rw [mA_at, if_neg (by omega)] | rw [mL_1] | rw [mR_1])) (fun _ _ => rfl) rfl).2.1
  have tr1 : cTr M1 (B, f) := by subst hM1; exact hN.1
  have h51 : M1.1 1 5 = 0 := by subst hM1; rfl
  have hlen : (askF E l 1 o).1.length ≤ 60 := by
    have := ask_len hE hL.2.2.2.2.1 l hl 1 o
    have := (hL.2.2.2.2.2.1 l hl).1
    omega
  have tail : ∀ M3 x, aPo E l 1 o M1 M3 (B, f) x → sm_X L xs 99 47 12 (sm_code 47 12) [(0, .ref 0)] [.int x] (wm (sh0 ++ dy) M3) (fun r w => ∃ v dy1 M1, r = some v ∧ w = wm (sh0 ++ dy1) M1 ∧ sm_E L xs 100 170 (.ref 65 :: [.int (nI l), .int 1, .long o]) (wm (sh0 ++ dy1) M1) (fun r w => r = some v ∧ ∃ M2, w = wm (sh0 ++ dy1) M2 ∧ rR (t + 1) dy1 M2)) := by
    intro M3 x hP
    have fr3 : (∀ a i, a ≠ 1 → a ≠ 2 → a ≠ 3 → M3.1 a i = M.1 a i) ∧ M3.2 = M.2 := by
      subst hM1
      rcases hP with ⟨-, c, -⟩ | ⟨-, c⟩
      · exact ⟨fun a i h1 h2 _ => by rw [c.2.1 a h1 h2, mI_ne _ _ _ h1], c.1⟩
      · exact ⟨fun a i h1 h2 h3 => by rw [c.2.1 a h1 h2 h3, mI_ne _ _ _ h1], c.1⟩
    have k4 : (m_setI M3 65 19 0).1 65 9 = nI n := by rw [mI_at, if_neg (by decide), fr3.1 _ _ (by decide) (by decide) (by decide)]; exact hn2
    have ls4 : mLs (m_setI M3 65 19 0) E n := (rL_fr hL (M' := m_setI M3 65 19 0) (fun a i h => by
      by_cases q : a = 1 ∨ a = 2 ∨ a = 3
      · omega
      · rw [mI_at, if_neg (by omega), fr3.1 a i (by omega) (by omega) (by omega)]) (fun a _ => by rw [mI_2, fr3.2]) (by rw [mI_2, fr3.2])).2.2.1
    have tr4 : mTr (m_setI M3 65 19 0) (B, f) := ⟨by rw [mI_at, if_neg (by decide), fr3.1 _ _ (by decide) (by decide) (by decide)]; exact hN.2.1.1, fun i hi => by rw [mI_ne _ _ _ (by decide), fr3.1 _ _ (by decide) (by decide) (by decide)]; exact hN.2.1.2 i hi⟩
    rcases hP with ⟨hz, c3, hx⟩ | ⟨hz, c3⟩
    · have m5 : decide (M3.1 1 5 ≠ 0) = false := decide_eq_false (fun q => q (by rw [c3.2.2.1]; exact h51))
      refine x_opp rfl rfl ?_
      refine x_opp rfl rfl ?_
      refine m_getg (s_0 dy) rfl rfl rfl ?_
      refine a_callV (s_1 dy) rfl rfl rfl rfl (c_met (s_1 dy) ?_)
      refine a_ifT rfl rfl br_eqz (by first | exact m5 | exact nt_f m5 | exact tnf m5 | exact fnt m5 | exact Int32.not_lt.mp m5 | exact Int32.not_le.mp m5 | exact Int32.not_lt.mpr m5 | exact Int32.not_le.mpr m5) ?_
      refine x_opp rfl rfl ?_
      refine x_go rfl ?_
      refine a_iret rfl rfl rfl ?_
      refine ⟨_, dy, _, rfl, rfl, ?_⟩; refine e_intro rfl rfl ?_
      refine x_opp rfl rfl ?_
      refine x_kcg rfl ?_
      refine a_putJ 19 (s_65 dy) rfl rfl rfl rfl ?_
      refine x_opp rfl rfl ?_
      refine a_ifF rfl rfl br_eq (by decide) ?_
      refine x_opp rfl rfl ?_
      refine x_kcg rfl ?_
      refine a_icT rfl rfl br_ne (by decide) ?_
      refine x_kcg rfl ?_
      refine x_go rfl ?_
      iterate 3 (refine x_opp rfl rfl ?_)
      refine a_callV (s_65 dy) rfl rfl rfl rfl (k_made hn16 k4 ?_)
      refine a_ifF rfl rfl br_eqz (by first | exact hl9 | exact nt_f hl9 | exact tnf hl9 | exact fnt hl9 | exact Int32.not_lt.mp hl9 | exact Int32.not_le.mp hl9 | exact Int32.not_lt.mpr hl9 | exact Int32.not_le.mpr hl9) ?_
      refine x_opp rfl rfl ?_
      refine x_kcg rfl ?_
      refine x_kcg rfl ?_
      refine a_callS rfl rfl rfl rfl (k_in ?_)
      refine a_ifF rfl rfl br_eqz (by first | exact hin | exact nt_f hin | exact tnf hin | exact fnt hin | exact Int32.not_lt.mp hin | exact Int32.not_le.mp hin | exact Int32.not_lt.mpr hin | exact Int32.not_le.mpr hin) ?_
      refine x_opp rfl rfl ?_
      refine x_kcg rfl ?_
      refine a_icF rfl rfl br_eq (by decide) ?_
      refine x_opp rfl rfl ?_
      refine a_ifT rfl rfl br_eq (by decide) ?_
      refine x_opp rfl rfl ?_
      refine x_kcg rfl ?_
      refine a_icT rfl rfl br_ne (by decide) ?_
      iterate 4 (refine x_opp rfl rfl ?_)
      refine a_callV (s_65 dy) rfl rfl rfl rfl (k_asks2 (act := 1) hE hl (by decide) ls4 tr4 (by omega) (fun M4 b a4 hP => ?_))
      rcases hP with ⟨rfl, -, hg⟩ | ⟨-, q, -⟩
      · refine a_ifF rfl rfl br_eqz (by decide) ?_
        refine x_opp rfl rfl ?_
        refine m_getg (s_65 dy) rfl rfl rfl ?_
        refine x_opp rfl rfl ?_
        refine x_go rfl ?_
        refine a_iret rfl rfl rfl ?_
        subst hM1
        exact ⟨by rw [hx, hg], _, rfl, R_ask hG hN hL hS hQ c3 a4 (by omega)⟩
      · exact absurd hz q
    · have hk2 := askF_fd hE l hl 1 o
      have m5 : decide (M3.1 1 5 ≠ 0) = true := decide_eq_true (by rw [c3.2.2.1]; exact nI_ne0 (by omega) (by omega))
      refine x_opp rfl rfl ?_
      refine x_opp rfl rfl ?_
      refine m_getg (s_0 dy) rfl rfl rfl ?_
      refine a_callV (s_1 dy) rfl rfl rfl rfl (c_met (s_1 dy) ?_)
      refine a_ifF rfl rfl br_eqz (by first | exact m5 | exact nt_f m5 | exact tnf m5 | exact fnt m5 | exact Int32.not_lt.mp m5 | exact Int32.not_le.mp m5 | exact Int32.not_lt.mpr m5 | exact Int32.not_le.mpr m5) ?_
      refine x_opp rfl rfl ?_
      refine m_getg (s_0 dy) rfl rfl rfl ?_
      refine a_callV (s_1 dy) rfl rfl rfl rfl (c_answer (s_1 dy) ?_)
      refine x_go rfl ?_
      refine a_iret rfl rfl rfl ?_
      rw [c3.2.2.1]
      refine ⟨_, dy, _, rfl, rfl, ?_⟩; refine e_intro rfl rfl ?_
      refine x_opp rfl rfl ?_
      refine x_kcg rfl ?_
      refine a_putJ 19 (s_65 dy) rfl rfl rfl rfl ?_
      refine x_opp rfl rfl ?_
      refine a_ifF rfl rfl br_eq (by decide) ?_
      refine x_opp rfl rfl ?_
      refine x_kcg rfl ?_
      refine a_icT rfl rfl br_ne (by decide) ?_
      refine x_kcg rfl ?_
      refine x_go rfl ?_
      iterate 3 (refine x_opp rfl rfl ?_)
      refine a_callV (s_65 dy) rfl rfl rfl rfl (k_made hn16 k4 ?_)
      refine a_ifF rfl rfl br_eqz (by first | exact hl9 | exact nt_f hl9 | exact tnf hl9 | exact fnt hl9 | exact Int32.not_lt.mp hl9 | exact Int32.not_le.mp hl9 | exact Int32.not_lt.mpr hl9 | exact Int32.not_le.mpr hl9) ?_
      refine x_opp rfl rfl ?_
      refine x_kcg rfl ?_
      refine x_kcg rfl ?_
      refine a_callS rfl rfl rfl rfl (k_in ?_)
      refine a_ifF rfl rfl br_eqz (by first | exact hin | exact nt_f hin | exact tnf hin | exact fnt hin | exact Int32.not_lt.mp hin | exact Int32.not_le.mp hin | exact Int32.not_lt.mpr hin | exact Int32.not_le.mpr hin) ?_
      refine x_opp rfl rfl ?_
      refine x_kcg rfl ?_
      refine a_icF rfl rfl br_eq (by decide) ?_
      refine x_opp rfl rfl ?_
      refine a_ifT rfl rfl br_eq (by decide) ?_
      refine x_opp rfl rfl ?_
      refine x_kcg rfl ?_
      refine a_icT rfl rfl br_ne (by decide) ?_
      iterate 4 (refine x_opp rfl rfl ?_)
      refine a_callV (s_65 dy) rfl rfl rfl rfl (k_asks2 (act := 1) hE hl (by decide) ls4 tr4 (by omega) (fun M4 b a4 hP => ?_))
      rcases hP with ⟨-, q, -⟩ | ⟨rfl, -, hg⟩
      · exact absurd q hz
      · refine a_ifT rfl rfl br_eqz rfl ?_
        refine x_opp rfl rfl ?_
        refine x_opp rfl rfl ?_
        refine m_getg (s_65 dy) rfl rfl rfl ?_
        rw [hg]
        refine a_callV (s_65 dy) rfl rfl rfl rfl (k_met (vp_in_nI (show (askF E l 1 o).2.1 < 6 by omega) (by decide)) ?_)
        refine x_go rfl ?_
        refine a_iret rfl rfl rfl ?_
        subst hM1
        exact ⟨rfl, _, rfl, R_askF (show (askF E l 1 o).2.1 < 6 by omega) hG hN hL hS hQ c3 a4 (by omega)⟩
  cases hd : lDr (E l) with
  | true =>
    have ed := askF_dr hE hl hd 1 o
    refine x_opp rfl rfl ?_
    refine m_getg (s_0 dy) rfl rfl rfl ?_
    refine a_callV (s_1 dy) rfl rfl rfl rfl (c_clear (s_1 dy) ?_)
    refine x_opp rfl rfl ?_
    refine m_getg (s_0 dy) rfl rfl rfl ?_
    refine x_opp rfl rfl ?_
    rw [hM1]
    refine a_callV (s_4 dy) rfl rfl rfl rfl (c_made c43 ?_)
    refine a_ifF rfl rfl br_eqz (by first | exact hl9 | exact nt_f hl9 | exact tnf hl9 | exact fnt hl9 | exact Int32.not_lt.mp hl9 | exact Int32.not_le.mp hl9 | exact Int32.not_lt.mpr hl9 | exact Int32.not_le.mpr hl9) ?_
    refine x_opp rfl rfl ?_
    refine a_ifF rfl rfl br_lt (by decide) ?_
    refine x_opp rfl rfl ?_
    refine x_kcg rfl ?_
    refine a_icF rfl rfl br_gt (by decide) ?_
    refine x_opp rfl rfl ?_
    refine x_kcg rfl ?_
    refine a_icT rfl rfl br_ne (by decide) ?_
    refine x_opp rfl rfl ?_
    refine a_ifF rfl rfl br_eq (by decide) ?_
    refine x_opp rfl rfl ?_
    refine x_kcg rfl ?_
    refine a_icT rfl rfl br_ne (by decide) ?_
    refine x_opp rfl rfl ?_
    refine m_getg (s_0 dy) rfl rfl rfl ?_
    refine x_opp rfl rfl ?_
    refine a_callV (s_4 dy) rfl rfl rfl rfl (c_wantN hE hl hs1 hd ?_)
    refine x_opp rfl rfl ?_
    refine x_opp rfl rfl ?_
    refine x_ifnonN ?_
    refine x_kcg rfl ?_
    refine x_go rfl ?_
    refine x_lvs [(0, .ref 0)] rfl rfl rfl ⟨rfl, trivial⟩ ?_
    refine tail _ _ (Or.inr ⟨by rw [ed]; decide, ?_⟩)
    rw [ed]
    exact cff_find tr1 (by decide)
  | false =>
    refine x_opp rfl rfl ?_
    refine m_getg (s_0 dy) rfl rfl rfl ?_
    refine a_callV (s_1 dy) rfl rfl rfl rfl (c_clear (s_1 dy) ?_)
    refine x_opp rfl rfl ?_
    refine m_getg (s_0 dy) rfl rfl rfl ?_
    refine x_opp rfl rfl ?_
    rw [hM1]
    refine a_callV (s_4 dy) rfl rfl rfl rfl (c_made c43 ?_)
    refine a_ifF rfl rfl br_eqz (by first | exact hl9 | exact nt_f hl9 | exact tnf hl9 | exact fnt hl9 | exact Int32.not_lt.mp hl9 | exact Int32.not_le.mp hl9 | exact Int32.not_lt.mpr hl9 | exact Int32.not_le.mpr hl9) ?_
    refine x_opp rfl rfl ?_
    refine a_ifF rfl rfl br_lt (by decide) ?_
    refine x_opp rfl rfl ?_
    refine x_kcg rfl ?_
    refine a_icF rfl rfl br_gt (by decide) ?_
    refine x_opp rfl rfl ?_
    refine x_kcg rfl ?_
    refine a_icT rfl rfl br_ne (by decide) ?_
    refine x_opp rfl rfl ?_
    refine a_ifF rfl rfl br_eq (by decide) ?_
    refine x_opp rfl rfl ?_
    refine x_kcg rfl ?_
    refine a_icT rfl rfl br_ne (by decide) ?_
    refine x_opp rfl rfl ?_
    refine m_getg (s_0 dy) rfl rfl rfl ?_
    refine x_opp rfl rfl ?_
    refine a_callV (s_4 dy) rfl rfl rfl rfl (c_wantR hE hl hs1 hd ?_)
    refine x_opp rfl rfl ?_
    refine x_opp rfl rfl ?_
    refine x_ifnonR ?_
    iterate 3 (refine x_opp rfl rfl ?_)
    refine a_callS rfl rfl rfl rfl (c_asked (act := 1) hE hl hd (by decide) (fun q => absurd q (by decide)) hs1 tr1 h51 (fun M3 x hP => ?_))
    refine x_go rfl ?_
    refine x_lvs [(0, .ref 0)] rfl rfl rfl ⟨rfl, trivial⟩ ?_
    exact tail M3 x hP
set_option maxRecDepth 4000 in
theorem p_ask3 {l : Nat} {o : Int64} (ht : t ≤ 512) (h : rR t dy M) (hln : ∀ n, M.1 65 9 = nI n → n ≤ 16 → l < n) (hw : decide (lenU o 26 ≠ 0) = true) : pr L xs t dy M 47 170 [.int (nI l), .int 3, .long o] := by
  have hR := h; obtain ⟨s, E, P, w, n, hG, hN, hL, hS, hQ⟩ := h; have z0 : (0 : Int32) = 0 := rfl; have z1 : (0 : Int32) ≤ 0 := (by decide); have z11 : ¬ (1 : Int32) = 0 := (by decide); have z12 : ¬ (1 : Int32) ≤ 0 := (by decide); obtain ⟨M1, hM1⟩ : ∃ M1, m_setI M 1 5 0 = M1 := ⟨_, rfl⟩; have g1 : rG M1 n := hM1 ▸ rG_c hG; obtain ⟨M2, hM2⟩ : ∃ M2, m_setI M1 65 19 0 = M2 := ⟨_, rfl⟩; have g2 : rG M2 n := hM2 ▸ rG_z g1
  have hn16 : n ≤ 16 := hL.1.1
  have hn2 : M.1 65 9 = nI n := hL.2.2.2.1
  have hl : l < n := hln n hn2 hn16
  unfold pr; refine e_intro rfl rfl ?_
  obtain ⟨B, f⟩ := s
  have hE := hL.1
  have hB : B ≤ 204120 * t := hN.2.2.2.2
  have c43 : M1.1 4 3 = nI n := by subst hM1; exact hL.2.1.1
  have hl9 : gRow (nI n) (nI l) = true := gRow_n hn16 hl
  have hin : inR 3 0 4 = true := by decide
  have hs1 : cLs (sh0 ++ dy) M1 E P n := by subst hM1; exact (rL_fr (M' := m_setI M 1 5 0) hL (fun a i h => by repeat (first | rw [mI_at, if_neg (by omega)] | rw [mA_at, if_neg (by omega)] | rw [mL_1] | rw [mR_1])) (fun _ _ => rfl) rfl).2.1
  have tr1 : cTr M1 (B, f) := by subst hM1; exact hN.1
  have h51 : M1.1 1 5 = 0 := by subst hM1; rfl
  have hlen : (askF E l 3 o).1.length ≤ 60 := by
    have := ask_len hE hL.2.2.2.2.1 l hl 3 o
    have := (hL.2.2.2.2.2.1 l hl).1
    omega
  have tail : ∀ M3 x, aPo E l 3 o M1 M3 (B, f) x → sm_X L xs 99 47 12 (sm_code 47 12) [(0, .ref 0)] [.int x] (wm (sh0 ++ dy) M3) (fun r w => ∃ v dy1 M1, r = some v ∧ w = wm (sh0 ++ dy1) M1 ∧ sm_E L xs 100 170 (.ref 65 :: [.int (nI l), .int 3, .long o]) (wm (sh0 ++ dy1) M1) (fun r w => r = some v ∧ ∃ M2, w = wm (sh0 ++ dy1) M2 ∧ rR (t + 1) dy1 M2)) := by
    intro M3 x hP
    have fr3 : (∀ a i, a ≠ 1 → a ≠ 2 → a ≠ 3 → M3.1 a i = M.1 a i) ∧ M3.2 = M.2 := by
      subst hM1
      rcases hP with ⟨-, c, -⟩ | ⟨-, c⟩
      · exact ⟨fun a i h1 h2 _ => by rw [c.2.1 a h1 h2, mI_ne _ _ _ h1], c.1⟩
      · exact ⟨fun a i h1 h2 h3 => by rw [c.2.1 a h1 h2 h3, mI_ne _ _ _ h1], c.1⟩
    have k4 : (m_setI M3 65 19 0).1 65 9 = nI n := by rw [mI_at, if_neg (by decide), fr3.1 _ _ (by decide) (by decide) (by decide)]; exact hn2
    have ls4 : mLs (m_setI M3 65 19 0) E n := (rL_fr hL (M' := m_setI M3 65 19 0) (fun a i h => by
      by_cases q : a = 1 ∨ a = 2 ∨ a = 3
      · omega
      · rw [mI_at, if_neg (by omega), fr3.1 a i (by omega) (by omega) (by omega)]) (fun a _ => by rw [mI_2, fr3.2]) (by rw [mI_2, fr3.2])).2.2.1
    have tr4 : mTr (m_setI M3 65 19 0) (B, f) := ⟨by rw [mI_at, if_neg (by decide), fr3.1 _ _ (by decide) (by decide) (by decide)]; exact hN.2.1.1, fun i hi => by rw [mI_ne _ _ _ (by decide), fr3.1 _ _ (by decide) (by decide) (by decide)]; exact hN.2.1.2 i hi⟩
    rcases hP with ⟨hz, c3, hx⟩ | ⟨hz, c3⟩
    · have m5 : decide (M3.1 1 5 ≠ 0) = false := decide_eq_false (fun q => q (by rw [c3.2.2.1]; exact h51))
      refine x_opp rfl rfl ?_
      refine x_opp rfl rfl ?_
      refine m_getg (s_0 dy) rfl rfl rfl ?_
      refine a_callV (s_1 dy) rfl rfl rfl rfl (c_met (s_1 dy) ?_)
      refine a_ifT rfl rfl br_eqz (by first | exact m5 | exact nt_f m5 | exact tnf m5 | exact fnt m5 | exact Int32.not_lt.mp m5 | exact Int32.not_le.mp m5 | exact Int32.not_lt.mpr m5 | exact Int32.not_le.mpr m5) ?_
      refine x_opp rfl rfl ?_
      refine x_go rfl ?_
      refine a_iret rfl rfl rfl ?_
      refine ⟨_, dy, _, rfl, rfl, ?_⟩; refine e_intro rfl rfl ?_
      refine x_opp rfl rfl ?_
      refine x_kcg rfl ?_
      refine a_putJ 19 (s_65 dy) rfl rfl rfl rfl ?_
      refine x_opp rfl rfl ?_
      refine a_ifF rfl rfl br_eq (by decide) ?_
      refine x_opp rfl rfl ?_
      refine x_kcg rfl ?_
      refine a_icF rfl rfl br_ne (fun h => h rfl) ?_
      refine x_kcg rfl ?_
      refine x_go rfl ?_
      iterate 3 (refine x_opp rfl rfl ?_)
      refine a_callV (s_65 dy) rfl rfl rfl rfl (k_made hn16 k4 ?_)
      refine a_ifF rfl rfl br_eqz (by first | exact hl9 | exact nt_f hl9 | exact tnf hl9 | exact fnt hl9 | exact Int32.not_lt.mp hl9 | exact Int32.not_le.mp hl9 | exact Int32.not_lt.mpr hl9 | exact Int32.not_le.mpr hl9) ?_
      refine x_opp rfl rfl ?_
      refine x_kcg rfl ?_
      refine x_kcg rfl ?_
      refine a_callS rfl rfl rfl rfl (k_in ?_)
      refine a_ifF rfl rfl br_eqz (by first | exact hin | exact nt_f hin | exact tnf hin | exact fnt hin | exact Int32.not_lt.mp hin | exact Int32.not_le.mp hin | exact Int32.not_lt.mpr hin | exact Int32.not_le.mpr hin) ?_
      refine x_opp rfl rfl ?_
      refine x_kcg rfl ?_
      refine a_icF rfl rfl br_eq (by decide) ?_
      refine x_opp rfl rfl ?_
      refine a_ifF rfl rfl br_eq (by decide) ?_
      refine x_opp rfl rfl ?_
      refine x_kcg rfl ?_
      refine a_callS rfl rfl rfl rfl (k_isWord (t := 26) (by decide) ?_)
      refine a_ifT rfl rfl br_nez (by first | exact hw | exact nt_f hw | exact tnf hw | exact fnt hw | exact Int32.not_lt.mp hw | exact Int32.not_le.mp hw | exact Int32.not_lt.mpr hw | exact Int32.not_le.mpr hw) ?_
      refine x_opp rfl rfl ?_
      refine x_kcg rfl ?_
      refine a_icT rfl rfl br_ne (by decide) ?_
      iterate 4 (refine x_opp rfl rfl ?_)
      refine a_callV (s_65 dy) rfl rfl rfl rfl (k_asks2 (act := 3) hE hl (by decide) ls4 tr4 (by omega) (fun M4 b a4 hP => ?_))
      rcases hP with ⟨rfl, -, hg⟩ | ⟨-, q, -⟩
      · refine a_ifF rfl rfl br_eqz (by decide) ?_
        refine x_opp rfl rfl ?_
        refine m_getg (s_65 dy) rfl rfl rfl ?_
        refine x_opp rfl rfl ?_
        refine x_go rfl ?_
        refine a_iret rfl rfl rfl ?_
        subst hM1
        exact ⟨by rw [hx, hg], _, rfl, R_ask hG hN hL hS hQ c3 a4 (by omega)⟩
      · exact absurd hz q
    · have hk2 := askF_fd hE l hl 3 o
      have m5 : decide (M3.1 1 5 ≠ 0) = true := decide_eq_true (by rw [c3.2.2.1]; exact nI_ne0 (by omega) (by omega))
      refine x_opp rfl rfl ?_
      refine x_opp rfl rfl ?_
      refine m_getg (s_0 dy) rfl rfl rfl ?_
      refine a_callV (s_1 dy) rfl rfl rfl rfl (c_met (s_1 dy) ?_)
      refine a_ifF rfl rfl br_eqz (by first | exact m5 | exact nt_f m5 | exact tnf m5 | exact fnt m5 | exact Int32.not_lt.mp m5 | exact Int32.not_le.mp m5 | exact Int32.not_lt.mpr m5 | exact Int32.not_le.mpr m5) ?_
      refine x_opp rfl rfl ?_
      refine m_getg (s_0 dy) rfl rfl rfl ?_
      refine a_callV (s_1 dy) rfl rfl rfl rfl (c_answer (s_1 dy) ?_)
      refine x_go rfl ?_
      refine a_iret rfl rfl rfl ?_
      rw [c3.2.2.1]
      refine ⟨_, dy, _, rfl, rfl, ?_⟩; refine e_intro rfl rfl ?_
      refine x_opp rfl rfl ?_
      refine x_kcg rfl ?_
      refine a_putJ 19 (s_65 dy) rfl rfl rfl rfl ?_
      refine x_opp rfl rfl ?_
      refine a_ifF rfl rfl br_eq (by decide) ?_
      refine x_opp rfl rfl ?_
      refine x_kcg rfl ?_
      refine a_icF rfl rfl br_ne (fun h => h rfl) ?_
      refine x_kcg rfl ?_
      refine x_go rfl ?_
      iterate 3 (refine x_opp rfl rfl ?_)
      refine a_callV (s_65 dy) rfl rfl rfl rfl (k_made hn16 k4 ?_)
      refine a_ifF rfl rfl br_eqz (by first | exact hl9 | exact nt_f hl9 | exact tnf hl9 | exact fnt hl9 | exact Int32.not_lt.mp hl9 | exact Int32.not_le.mp hl9 | exact Int32.not_lt.mpr hl9 | exact Int32.not_le.mpr hl9) ?_
      refine x_opp rfl rfl ?_
      refine x_kcg rfl ?_
      refine x_kcg rfl ?_
      refine a_callS rfl rfl rfl rfl (k_in ?_)
      refine a_ifF rfl rfl br_eqz (by first | exact hin | exact nt_f hin | exact tnf hin | exact fnt hin | exact Int32.not_lt.mp hin | exact Int32.not_le.mp hin | exact Int32.not_lt.mpr hin | exact Int32.not_le.mpr hin) ?_
      refine x_opp rfl rfl ?_
      refine x_kcg rfl ?_
      refine a_icF rfl rfl br_eq (by decide) ?_
      refine x_opp rfl rfl ?_
      refine a_ifF rfl rfl br_eq (by decide) ?_
      refine x_opp rfl rfl ?_
      refine x_kcg rfl ?_
      refine a_callS rfl rfl rfl rfl (k_isWord (t := 26) (by decide) ?_)
      refine a_ifT rfl rfl br_nez (by first | exact hw | exact nt_f hw | exact tnf hw | exact fnt hw | exact Int32.not_lt.mp hw | exact Int32.not_le.mp hw | exact Int32.not_lt.mpr hw | exact Int32.not_le.mpr hw) ?_
      refine x_opp rfl rfl ?_
      refine x_kcg rfl ?_
      refine a_icT rfl rfl br_ne (by decide) ?_
      iterate 4 (refine x_opp rfl rfl ?_)
      refine a_callV (s_65 dy) rfl rfl rfl rfl (k_asks2 (act := 3) hE hl (by decide) ls4 tr4 (by omega) (fun M4 b a4 hP => ?_))
      rcases hP with ⟨-, q, -⟩ | ⟨rfl, -, hg⟩
      · exact absurd q hz
      · refine a_ifT rfl rfl br_eqz rfl ?_
        refine x_opp rfl rfl ?_
        refine x_opp rfl rfl ?_
        refine m_getg (s_65 dy) rfl rfl rfl ?_
        rw [hg]
        refine a_callV (s_65 dy) rfl rfl rfl rfl (k_met (vp_in_nI (show (askF E l 3 o).2.1 < 6 by omega) (by decide)) ?_)
        refine x_go rfl ?_
        refine a_iret rfl rfl rfl ?_
        subst hM1
        exact ⟨rfl, _, rfl, R_askF (show (askF E l 3 o).2.1 < 6 by omega) hG hN hL hS hQ c3 a4 (by omega)⟩
  cases hd : lDr (E l) with
  | true =>
    have ed := askF_dr hE hl hd 3 o
    refine x_opp rfl rfl ?_
    refine m_getg (s_0 dy) rfl rfl rfl ?_
    refine a_callV (s_1 dy) rfl rfl rfl rfl (c_clear (s_1 dy) ?_)
    refine x_opp rfl rfl ?_
    refine m_getg (s_0 dy) rfl rfl rfl ?_
    refine x_opp rfl rfl ?_
    rw [hM1]
    refine a_callV (s_4 dy) rfl rfl rfl rfl (c_made c43 ?_)
    refine a_ifF rfl rfl br_eqz (by first | exact hl9 | exact nt_f hl9 | exact tnf hl9 | exact fnt hl9 | exact Int32.not_lt.mp hl9 | exact Int32.not_le.mp hl9 | exact Int32.not_lt.mpr hl9 | exact Int32.not_le.mpr hl9) ?_
    refine x_opp rfl rfl ?_
    refine a_ifF rfl rfl br_lt (by decide) ?_
    refine x_opp rfl rfl ?_
    refine x_kcg rfl ?_
    refine a_icF rfl rfl br_gt (by decide) ?_
    refine x_opp rfl rfl ?_
    refine x_kcg rfl ?_
    refine a_icT rfl rfl br_ne (by decide) ?_
    refine x_opp rfl rfl ?_
    refine a_ifF rfl rfl br_eq (by decide) ?_
    refine x_opp rfl rfl ?_
    refine x_kcg rfl ?_
    refine a_icF rfl rfl br_ne (fun h => h rfl) ?_
    refine x_opp rfl rfl ?_
    refine a_callS rfl rfl rfl rfl (c_isWord ?_)
    refine a_ifT rfl rfl br_nez (by first | exact hw | exact nt_f hw | exact tnf hw | exact fnt hw | exact Int32.not_lt.mp hw | exact Int32.not_le.mp hw | exact Int32.not_lt.mpr hw | exact Int32.not_le.mpr hw) ?_
    refine x_opp rfl rfl ?_
    refine m_getg (s_0 dy) rfl rfl rfl ?_
    refine x_opp rfl rfl ?_
    refine a_callV (s_4 dy) rfl rfl rfl rfl (c_wantN hE hl hs1 hd ?_)
    refine x_opp rfl rfl ?_
    refine x_opp rfl rfl ?_
    refine x_ifnonN ?_
    refine x_kcg rfl ?_
    refine x_go rfl ?_
    refine x_lvs [(0, .ref 0)] rfl rfl rfl ⟨rfl, trivial⟩ ?_
    refine tail _ _ (Or.inr ⟨by rw [ed]; decide, ?_⟩)
    rw [ed]
    exact cff_find tr1 (by decide)
  | false =>
    refine x_opp rfl rfl ?_
    refine m_getg (s_0 dy) rfl rfl rfl ?_
    refine a_callV (s_1 dy) rfl rfl rfl rfl (c_clear (s_1 dy) ?_)
    refine x_opp rfl rfl ?_
    refine m_getg (s_0 dy) rfl rfl rfl ?_
    refine x_opp rfl rfl ?_
    rw [hM1]
    refine a_callV (s_4 dy) rfl rfl rfl rfl (c_made c43 ?_)
    refine a_ifF rfl rfl br_eqz (by first | exact hl9 | exact nt_f hl9 | exact tnf hl9 | exact fnt hl9 | exact Int32.not_lt.mp hl9 | exact Int32.not_le.mp hl9 | exact Int32.not_lt.mpr hl9 | exact Int32.not_le.mpr hl9) ?_
    refine x_opp rfl rfl ?_
    refine a_ifF rfl rfl br_lt (by decide) ?_
    refine x_opp rfl rfl ?_
    refine x_kcg rfl ?_
    refine a_icF rfl rfl br_gt (by decide) ?_
    refine x_opp rfl rfl ?_
    refine x_kcg rfl ?_
    refine a_icT rfl rfl br_ne (by decide) ?_
    refine x_opp rfl rfl ?_
    refine a_ifF rfl rfl br_eq (by decide) ?_
    refine x_opp rfl rfl ?_
    refine x_kcg rfl ?_
    refine a_icF rfl rfl br_ne (fun h => h rfl) ?_
    refine x_opp rfl rfl ?_
    refine a_callS rfl rfl rfl rfl (c_isWord ?_)
    refine a_ifT rfl rfl br_nez (by first | exact hw | exact nt_f hw | exact tnf hw | exact fnt hw | exact Int32.not_lt.mp hw | exact Int32.not_le.mp hw | exact Int32.not_lt.mpr hw | exact Int32.not_le.mpr hw) ?_
    refine x_opp rfl rfl ?_
    refine m_getg (s_0 dy) rfl rfl rfl ?_
    refine x_opp rfl rfl ?_
    refine a_callV (s_4 dy) rfl rfl rfl rfl (c_wantR hE hl hs1 hd ?_)
    refine x_opp rfl rfl ?_
    refine x_opp rfl rfl ?_
    refine x_ifnonR ?_
    iterate 3 (refine x_opp rfl rfl ?_)
    refine a_callS rfl rfl rfl rfl (c_asked (act := 3) hE hl hd (by decide) (fun q => absurd q (by decide)) hs1 tr1 h51 (fun M3 x hP => ?_))
    refine x_go rfl ?_
    refine x_lvs [(0, .ref 0)] rfl rfl rfl ⟨rfl, trivial⟩ ?_
    exact tail M3 x hP
end AL
