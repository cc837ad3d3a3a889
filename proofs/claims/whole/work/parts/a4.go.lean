/-! pairs: filling goes on -/
section GN
variable {L : Nat} {xs : Nat → Int32} {t d : Nat} {dy : List sh_T} {M : mm_T} {Q : Option Value → sm_W → Prop} {n G : Nat}
theorem stp_n {v : Int32} (h : inR v 1 5000 = true) : ∃ lim, v = nI lim ∧ 1 ≤ lim ∧ lim ≤ 5000 := by
  unfold inR at h
  by_cases h1 : v < 1
  · rw [if_pos h1] at h; cases h
  · rw [if_neg h1] at h
    by_cases h2 : 5000 < v
    · rw [if_pos h2] at h; cases h
    · have v0 : ¬ v < 0 := fun q => h1 (Int32.lt_trans q (by decide))
      obtain ⟨m, hm, rfl⟩ := nI_ofm (m := 5000) v0 (Int32.not_lt.mp h2) (by decide)
      refine ⟨m, rfl, ?_, hm⟩
      by_cases z : m = 0
      · subst z; exact absurd (by decide) h1
      · omega
set_option maxRecDepth 4000 in
theorem p_goOn {v : Int32} (h : rR t dy M) : pr L xs t dy M 106 205 [.int v] := by
  have hR := h; obtain ⟨s, E, P, w, n, hG, hN, hL, hS, hQ⟩ := h; have z0 : (0 : Int32) = 0 := rfl; have z1 : (0 : Int32) ≤ 0 := (by decide); have z11 : ¬ (1 : Int32) = 0 := (by decide); have z12 : ¬ (1 : Int32) ≤ 0 := (by decide); obtain ⟨M1, hM1⟩ : ∃ M1, m_setI M 1 5 0 = M1 := ⟨_, rfl⟩; have g1 : rG M1 n := hM1 ▸ rG_c hG; obtain ⟨M2, hM2⟩ : ∃ M2, m_setI M1 65 19 0 = M2 := ⟨_, rfl⟩; have g2 : rG M2 n := hM2 ▸ rG_z g1
  unfold pr; refine e_intro rfl rfl ?_
  by_cases hv : inR v 1 5000 = true
  · have m11 : M1.1 0 11 = M.1 0 11 := by rw [← hM1]; rfl
    rcases hS.2 with h0 | ⟨h1, G, D, S, hG4, h10, h39, hd, hin, hI, hD, hSt, e13, mD0, mS0, e14, hout⟩
    · have g0 : M1.1 0 11 = 0 := m11.trans h0
      have g1 : M2.1 65 38 = 0 := by rw [← hM2, ← hM1]; exact hS.1.symm.trans h0
      refine x_opp rfl rfl ?_
      refine m_getg (s_0 dy) rfl rfl rfl ?_
      refine a_callV (s_1 dy) rfl rfl rfl rfl (c_clear (s_1 dy) ?_)
      refine x_opp rfl rfl ?_
      refine a_callS rfl rfl rfl rfl (c_isStepNumber ?_)
      rw [hM1]
      refine a_ifT rfl rfl br_nez (by first | exact hv | exact nt_f hv | exact tnf hv | exact fnt hv | exact Int32.not_lt.mp hv | exact Int32.not_le.mp hv | exact Int32.not_lt.mpr hv | exact Int32.not_le.mpr hv) ?_
      refine x_opp rfl rfl ?_
      refine m_getg (s_0 dy) rfl rfl rfl ?_
      refine a_ifF rfl rfl br_ne (fun q => q g0) ?_
      refine x_kcg rfl ?_
      refine a_iret rfl rfl rfl ?_
      refine ⟨_, dy, _, rfl, rfl, ?_⟩; refine e_intro rfl rfl ?_
      refine x_opp rfl rfl ?_
      refine x_kcg rfl ?_
      refine a_putJ 19 (s_65 dy) rfl rfl rfl rfl ?_
      refine x_opp rfl rfl ?_
      refine x_kcg rfl ?_
      refine x_kcg rfl ?_
      refine a_callS rfl rfl rfl rfl (k_in ?_)
      rw [hM2]
      refine a_ifT rfl rfl br_nez (by first | exact hv | exact nt_f hv | exact tnf hv | exact fnt hv | exact Int32.not_lt.mp hv | exact Int32.not_le.mp hv | exact Int32.not_lt.mpr hv | exact Int32.not_le.mpr hv) ?_
      refine x_opp rfl rfl ?_
      refine m_getg (s_65 dy) rfl rfl rfl ?_
      refine a_ifT rfl rfl br_eq (by first | exact g1 | exact nt_f g1 | exact tnf g1 | exact fnt g1 | exact Int32.not_lt.mp g1 | exact Int32.not_le.mp g1 | exact Int32.not_lt.mpr g1 | exact Int32.not_le.mpr g1) ?_
      refine x_kcg rfl ?_
      refine x_go rfl ?_
      refine a_iret rfl rfl rfl ?_
      subst hM2; subst hM1; exact ⟨rfl, _, rfl, R_cl hR⟩
    · obtain ⟨lim, rfl, l1, l5⟩ := stp_n hv
      have g0 : ¬ M1.1 0 11 = 0 := by rw [m11, h1]; decide
      have dl := hd.1
      have sl := hI.1
      obtain ⟨r, hr⟩ := sNx_some D lim (2 * lim + 50) S 0 (Nat.zero_le _) (by omega)
      obtain ⟨ca, hca⟩ := rG_ca hG hG4
      have f1 : ∀ a i, a ≠ 1 → M1.1 a i = M.1 a i := fun a i h => by rw [← hM1, mI_ne _ _ _ h]
      have n1 : M1.2 = M.2 := by rw [← hM1]; rfl
      refine x_opp rfl rfl ?_
      refine m_getg (s_0 dy) rfl rfl rfl ?_
      refine a_callV (s_1 dy) rfl rfl rfl rfl (c_clear (s_1 dy) ?_)
      refine x_opp rfl rfl ?_
      refine a_callS rfl rfl rfl rfl (c_isStepNumber ?_)
      rw [hM1]
      refine a_ifT rfl rfl br_nez (by first | exact hv | exact nt_f hv | exact tnf hv | exact fnt hv | exact Int32.not_lt.mp hv | exact Int32.not_le.mp hv | exact Int32.not_lt.mpr hv | exact Int32.not_le.mpr hv) ?_
      refine x_opp rfl rfl ?_
      refine m_getg (s_0 dy) rfl rfl rfl ?_
      refine a_ifT rfl rfl br_ne (by first | exact g0 | exact nt_f g0 | exact tnf g0 | exact fnt g0 | exact Int32.not_lt.mp g0 | exact Int32.not_le.mp g0 | exact Int32.not_lt.mpr g0 | exact Int32.not_le.mpr g0) ?_
      refine x_opp rfl rfl ?_
      refine x_opp rfl rfl ?_
      refine a_callV (s_0 dy) rfl rfl rfl rfl (c_fillOn (ca := ca) hG4 ((f1 0 10 (by decide)).trans h10) (by rw [n1]; exact hG.2.1 G hG4) hd l5 hr hI (cD_ex2 (M := M) (fun a i _ _ => f1 a i (by omega)) (fun _ _ => by rw [n1]) hD) (cS_ex2 (M := M) (fun a i _ => f1 a i (by omega)) (fun _ _ _ => by rw [n1]) hSt) ((f1 13 13 (by decide)).trans e13) (fun s hs => by rw [f1 _ _ (by omega)]; exact hca s hs) (fun Mb hb => ?_))
      refine a_iret rfl rfl rfl ?_
      refine ⟨_, dy, _, rfl, rfl, ?_⟩; refine e_intro rfl rfl ?_
      have hb' := hb
      obtain ⟨b1, b2, b3, b4, b5, b6, -, -, -, -⟩ := hb'
      obtain ⟨Mc, hMc⟩ : ∃ Mc, m_setI Mb 65 19 0 = Mc := ⟨_, rfl⟩
      have fc : ∀ a i, ¬ (a = 65 ∧ i = 19) → Mc.1 a i = Mb.1 a i := fun a i h => by rw [← hMc, mI_at, if_neg h]
      have mc : Mc.2 = Mb.2 := by rw [← hMc]; rfl
      have hb2 : ∀ a i, 65 ≤ a → Mb.1 a i = M.1 a i := fun a i h => by rw [b2 a (by omega) (by omega) (by omega) (by omega) (by omega) (by omega), f1 a i (by omega)]
      have g38 : ¬ Mc.1 65 38 = 0 := by rw [fc _ _ (by omega), hb2 _ _ (by omega), ← hS.1, h1]; decide
      have g39 : Mc.1 65 39 = nI G := by rw [fc _ _ (by omega), hb2 _ _ (by omega)]; exact h39
      have ce : ∀ a, 66 ≤ a → Mc.1 a = M.1 a := fun a h => funext fun i => by rw [fc a i (by omega), hb2 a i (by omega)]
      have cl : ∀ a, 65 ≤ a → Mc.2.1 a = M.2.1 a := fun a h => by rw [mc, b4 a (by omega), n1]
      refine x_opp rfl rfl ?_
      refine x_kcg rfl ?_
      refine a_putJ 19 (s_65 dy) rfl rfl rfl rfl ?_
      refine x_opp rfl rfl ?_
      refine x_kcg rfl ?_
      refine x_kcg rfl ?_
      refine a_callS rfl rfl rfl rfl (k_in ?_)
      rw [hMc]
      refine a_ifT rfl rfl br_nez (by first | exact hv | exact nt_f hv | exact tnf hv | exact fnt hv | exact Int32.not_lt.mp hv | exact Int32.not_le.mp hv | exact Int32.not_lt.mpr hv | exact Int32.not_le.mpr hv) ?_
      refine x_opp rfl rfl ?_
      refine m_getg (s_65 dy) rfl rfl rfl ?_
      refine a_ifF rfl rfl br_eq (by first | exact g38 | exact nt_f g38 | exact tnf g38 | exact fnt g38 | exact Int32.not_lt.mp g38 | exact Int32.not_le.mp g38 | exact Int32.not_lt.mpr g38 | exact Int32.not_le.mpr g38) ?_
      refine x_opp rfl rfl ?_
      refine x_opp rfl rfl ?_
      refine m_getg (s_65 dy) rfl rfl rfl ?_
      refine x_opp rfl rfl ?_
      rw [g39]
      refine a_callV (s_65 dy) rfl rfl rfl rfl (k_fillOn hG4 hd hin l5 hr hI (mD_ex (M := M) (fun a h => ce a (by omega)) (cl 99 (by decide)) mD0) (mS_ex (M := M) (fun a h => ce a (by omega)) (cl 104 (by decide)) mS0) (fun Md he => ?_))
      refine x_go rfl ?_
      refine a_iret rfl rfl rfl ?_
      refine ⟨rfl, _, rfl, ?_⟩
      have he' := he
      obtain ⟨k1, k2, k3, -⟩ := he'
      have fN : ∀ a i, (a = 1 ∧ i ≠ 5) ∨ a = 2 ∨ a = 3 ∨ a = 84 ∨ a = 85 ∨ (a = 65 ∧ i = 22) → Md.1 a i = M.1 a i := fun a i h => by
        by_cases q : a = 65
        · subst q
          rw [k3 i (by omega) (by omega) (by omega) (by omega), fc _ _ (by omega), hb2 _ _ (by omega)]
        · rw [k2 a q (by omega) (by omega) (by omega) (by omega) (by omega), fc _ _ (by omega), b2 a (by omega) (by omega) (by omega) (by omega) (by omega) (by omega), ← hM1, mI_at, if_neg (by omega)]
      have h5 : Md.1 1 5 = Md.1 65 19 := by
        rw [k2 1 (by decide) (by decide) (by decide) (by decide) (by decide) (by decide), fc _ _ (by omega), b2 1 (by decide) (by decide) (by decide) (by decide) (by decide) (by omega), k3 19 (by decide) (by decide) (by decide) (by decide), ← hM1, ← hMc]
        rfl
      exact R_fo (M := M) (Ma := M1) (Mb := Mb) (Mc := Mc) hG hL hQ (rN_cl hN (Nat.le_succ t) fN h5) hG4 hca (fun a i h => f1 a i (by omega)) (fun a _ => by rw [n1]) (by rw [n1]) ((f1 0 10 (by decide)).trans h10) hb (fun a i h => fc a i (by omega)) (fun a _ => by rw [mc]) (by rw [mc]) hd hin (by rw [f1 _ _ (by decide), ce 98 (by decide)]; exact e14) (fun s hs hc => by rw [ce 106 (by decide)]; exact hout s hs hc) he
  · refine x_opp rfl rfl ?_
    refine m_getg (s_0 dy) rfl rfl rfl ?_
    refine a_callV (s_1 dy) rfl rfl rfl rfl (c_clear (s_1 dy) ?_)
    refine x_opp rfl rfl ?_
    refine a_callS rfl rfl rfl rfl (c_isStepNumber ?_)
    rw [hM1]
    refine a_ifF rfl rfl br_nez (by first | exact hv | exact nt_f hv | exact tnf hv | exact fnt hv | exact Int32.not_lt.mp hv | exact Int32.not_le.mp hv | exact Int32.not_lt.mpr hv | exact Int32.not_le.mpr hv) ?_
    refine x_kcg rfl ?_
    refine a_iret rfl rfl rfl ?_
    refine ⟨_, dy, _, rfl, rfl, ?_⟩; refine e_intro rfl rfl ?_
    refine x_opp rfl rfl ?_
    refine x_kcg rfl ?_
    refine a_putJ 19 (s_65 dy) rfl rfl rfl rfl ?_
    refine x_opp rfl rfl ?_
    refine x_kcg rfl ?_
    refine x_kcg rfl ?_
    refine a_callS rfl rfl rfl rfl (k_in ?_)
    rw [hM2]
    refine a_ifF rfl rfl br_nez (by first | exact hv | exact nt_f hv | exact tnf hv | exact fnt hv | exact Int32.not_lt.mp hv | exact Int32.not_le.mp hv | exact Int32.not_lt.mpr hv | exact Int32.not_le.mpr hv) ?_
    refine x_kcg rfl ?_
    refine a_iret rfl rfl rfl ?_
    subst hM2; subst hM1; exact ⟨rfl, _, rfl, R_cl hR⟩
end GN
