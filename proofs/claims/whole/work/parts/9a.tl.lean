/-! pairs: what is told -/
theorem fm_dec : ∀ r, r < 100 → ∀ j, j < 100 → fMod (nI r - 1 - nI j) 100 = nI ((r + 199 - j) % 100) := by decide +kernel
theorem nI_sub {a b : Nat} (h : b ≤ a) : nI a - nI b = nI (a - b) := by
  have : nI a = nI (a - b) + nI b := by rw [nI_add]; congr 1; omega
  rw [this, Int32.add_sub_cancel]
theorem vEq_d {ln ln' cs cs' : Nat → Int32} {H : Nat} (hH : H ≤ 7) (e : vEq ln ln' cs cs' H) : ∀ i, i ≤ H → dAll ln cs i = dAll ln' cs' i
  | 0, _ => rfl
  | i + 1, h => by
    have r : ∀ d0 j, j ≤ (ln i).toNatClampNeg → dRow cs i d0 j = dRow cs' i d0 j := by
      intro d0 j
      induction j with
      | zero => intro _; rfl
      | succ j ih =>
        intro hj
        unfold dRow
        rw [ih (by omega), e.2 i j (by omega) (by omega)]
    unfold dAll
    rw [r _ _ (Nat.le_refl _), e.1 i (by omega), vEq_d hH e i (by omega)]
section TL
variable {L : Nat} {xs : Nat → Int32} {t d : Nat} {dy : List sh_T} {M : mm_T} {Q : Option Value → sm_W → Prop} {n G : Nat}
set_option maxRecDepth 4000 in
theorem p_found {v : Int32} (h : rR t dy M) : pr L xs t dy M 141 228 [.int v] := by
  have hR := h
  obtain ⟨s, E, P, w, n, hG, hN, hL, hS, hQ⟩ := h
  unfold pr; refine e_intro rfl rfl ?_
  by_cases hv : inR v 1 5 = true
  · have v1 : ¬ v < 1 := fun h => by unfold inR at hv; rw [if_pos h] at hv; cases hv
    have v5 : v ≤ 5 := by
      unfold inR at hv
      rw [if_neg v1] at hv
      by_cases q : (5 : Int32) < v
      · rw [if_pos q] at hv; cases hv
      · exact Int32.not_lt.mp q
    obtain ⟨k, hk, rfl⟩ := nI_ofm (m := 5) (fun h => v1 (Int32.lt_trans h (by decide))) v5 (by decide)
    refine x_opp rfl rfl ?_
    refine x_kcg rfl ?_
    refine a_icF rfl rfl br_lt (by first | exact v1 | exact nt_f v1 | exact tnf v1 | exact fnt v1 | exact Int32.not_lt.mp v1 | exact Int32.not_le.mp v1 | exact Int32.not_lt.mpr v1 | exact Int32.not_le.mpr v1) ?_
    refine x_opp rfl rfl ?_
    refine x_kcg rfl ?_
    refine a_icT rfl rfl br_le (by first | exact v5 | exact nt_f v5 | exact tnf v5 | exact fnt v5 | exact Int32.not_lt.mp v5 | exact Int32.not_le.mp v5 | exact Int32.not_lt.mpr v5 | exact Int32.not_le.mpr v5) ?_
    refine x_opp rfl rfl ?_
    refine m_getg (s_0 dy) rfl rfl rfl ?_
    refine m_getg (s_1 dy) rfl rfl rfl ?_
    refine x_opp rfl rfl ?_
    refine a_ialdN (s_3 dy) (k := k) rfl rfl rfl (by omega) (by decide) ?_
    refine x_go rfl ?_
    refine a_iret rfl rfl rfl ?_
    refine ⟨_, dy, _, rfl, rfl, ?_⟩; refine e_intro rfl rfl ?_
    refine x_opp rfl rfl ?_
    refine x_kcg rfl ?_
    refine x_kcg rfl ?_
    refine a_callS rfl rfl rfl rfl (k_in ?_)
    refine a_ifF rfl rfl br_eqz (by first | exact hv | exact nt_f hv | exact tnf hv | exact fnt hv | exact Int32.not_lt.mp hv | exact Int32.not_le.mp hv | exact Int32.not_lt.mpr hv | exact Int32.not_le.mpr hv) ?_
    refine x_opp rfl rfl ?_
    refine m_getg (s_65 dy) rfl rfl rfl ?_
    refine x_opp rfl rfl ?_
    refine a_ialdN (s_84 dy) (k := k) rfl rfl rfl (by omega) (by decide) ?_
    refine x_go rfl ?_
    refine a_iret rfl rfl rfl ?_
    exact ⟨congrArg (fun x => some (Value.int x)) (hN.2.2.2.1 k (by omega)).symm, _, rfl, R_up hR⟩
  · by_cases v1 : v < 1
    · refine x_opp rfl rfl ?_
      refine x_kcg rfl ?_
      refine a_icT rfl rfl br_lt (by first | exact v1 | exact nt_f v1 | exact tnf v1 | exact fnt v1 | exact Int32.not_lt.mp v1 | exact Int32.not_le.mp v1 | exact Int32.not_lt.mpr v1 | exact Int32.not_le.mpr v1) ?_
      refine x_kcg rfl ?_
      refine x_go rfl ?_
      refine a_iret rfl rfl rfl ?_
      refine ⟨_, dy, _, rfl, rfl, ?_⟩; refine e_intro rfl rfl ?_
      refine x_opp rfl rfl ?_
      refine x_kcg rfl ?_
      refine x_kcg rfl ?_
      refine a_callS rfl rfl rfl rfl (k_in ?_)
      refine a_ifT rfl rfl br_eqz (by first | exact hv | exact nt_f hv | exact tnf hv | exact fnt hv | exact Int32.not_lt.mp hv | exact Int32.not_le.mp hv | exact Int32.not_lt.mpr hv | exact Int32.not_le.mpr hv) ?_
      refine x_kcg rfl ?_
      refine x_go rfl ?_
      refine a_iret rfl rfl rfl ?_
      exact ⟨rfl, _, rfl, R_up hR⟩
    · have v5 : ¬ v ≤ 5 := fun q => hv (by unfold inR; rw [if_neg v1, if_neg (Int32.not_lt.mpr q)])
      refine x_opp rfl rfl ?_
      refine x_kcg rfl ?_
      refine a_icF rfl rfl br_lt (by first | exact v1 | exact nt_f v1 | exact tnf v1 | exact fnt v1 | exact Int32.not_lt.mp v1 | exact Int32.not_le.mp v1 | exact Int32.not_lt.mpr v1 | exact Int32.not_le.mpr v1) ?_
      refine x_opp rfl rfl ?_
      refine x_kcg rfl ?_
      refine a_icF rfl rfl br_le (by first | exact v5 | exact nt_f v5 | exact tnf v5 | exact fnt v5 | exact Int32.not_lt.mp v5 | exact Int32.not_le.mp v5 | exact Int32.not_lt.mpr v5 | exact Int32.not_le.mpr v5) ?_
      refine x_kcg rfl ?_
      refine x_go rfl ?_
      refine a_iret rfl rfl rfl ?_
      refine ⟨_, dy, _, rfl, rfl, ?_⟩; refine e_intro rfl rfl ?_
      refine x_opp rfl rfl ?_
      refine x_kcg rfl ?_
      refine x_kcg rfl ?_
      refine a_callS rfl rfl rfl rfl (k_in ?_)
      refine a_ifT rfl rfl br_eqz (by first | exact hv | exact nt_f hv | exact tnf hv | exact fnt hv | exact Int32.not_lt.mp hv | exact Int32.not_le.mp hv | exact Int32.not_lt.mpr hv | exact Int32.not_le.mpr hv) ?_
      refine x_kcg rfl ?_
      refine x_go rfl ?_
      refine a_iret rfl rfl rfl ?_
      exact ⟨rfl, _, rfl, R_up hR⟩
set_option maxRecDepth 4000 in
theorem p_searched {v : Int32} (h : rR t dy M) : pr L xs t dy M 111 208 [.int v] := by
  have hR := h; obtain ⟨s, E, P, w, n, hG, hN, hL, hS, hQ⟩ := h; have z0 : (0 : Int32) = 0 := rfl; have z1 : (0 : Int32) ≤ 0 := (by decide); have z11 : ¬ (1 : Int32) = 0 := (by decide); have z12 : ¬ (1 : Int32) ≤ 0 := (by decide); obtain ⟨M1, hM1⟩ : ∃ M1, m_setI M 1 5 0 = M1 := ⟨_, rfl⟩; have g1 : rG M1 n := hM1 ▸ rG_c hG; obtain ⟨M2, hM2⟩ : ∃ M2, m_setI M1 65 19 0 = M2 := ⟨_, rfl⟩; have g2 : rG M2 n := hM2 ▸ rG_z g1
  unfold pr; refine e_intro rfl rfl ?_
  obtain ⟨-, ⟨q0, q1, q2, q3⟩, -⟩ := hQ
  by_cases v0 : v < 0
  · have w0 : v ≠ 0 := fun e => by rw [e] at v0; exact absurd v0 (by decide)
    have w1 : v ≠ 1 := fun e => by rw [e] at v0; exact absurd v0 (by decide)
    have w2 : v ≠ 2 := fun e => by rw [e] at v0; exact absurd v0 (by decide)
    have w3 : v ≠ 3 := fun e => by rw [e] at v0; exact absurd v0 (by decide)
    refine x_opp rfl rfl ?_
    refine m_getg (s_0 dy) rfl rfl rfl ?_
    refine a_callV (s_1 dy) rfl rfl rfl rfl (c_clear (s_1 dy) ?_)
    refine x_opp rfl rfl ?_
    rw [hM1]
    refine a_ifT rfl rfl br_lt (by first | exact v0 | exact nt_f v0 | exact tnf v0 | exact fnt v0 | exact Int32.not_lt.mp v0 | exact Int32.not_le.mp v0 | exact Int32.not_lt.mpr v0 | exact Int32.not_le.mpr v0) ?_
    refine x_kcg rfl ?_
    refine x_go rfl ?_
    refine a_iret rfl rfl rfl ?_
    refine ⟨_, dy, _, rfl, rfl, ?_⟩; refine e_intro rfl rfl ?_
    refine x_opp rfl rfl ?_
    refine x_kcg rfl ?_
    refine a_putJ 19 (s_65 dy) rfl rfl rfl rfl ?_
    refine x_opp rfl rfl ?_
    rw [hM2]
    refine a_ifT rfl rfl br_ne (by first | exact w0 | exact nt_f w0 | exact tnf w0 | exact fnt w0 | exact Int32.not_lt.mp w0 | exact Int32.not_le.mp w0 | exact Int32.not_lt.mpr w0 | exact Int32.not_le.mpr w0) ?_
    refine x_opp rfl rfl ?_
    refine x_kcg rfl ?_
    refine a_icT rfl rfl br_ne (by first | exact w1 | exact nt_f w1 | exact tnf w1 | exact fnt w1 | exact Int32.not_lt.mp w1 | exact Int32.not_le.mp w1 | exact Int32.not_lt.mpr w1 | exact Int32.not_le.mpr w1) ?_
    refine x_opp rfl rfl ?_
    refine x_kcg rfl ?_
    refine a_icT rfl rfl br_ne (by first | exact w2 | exact nt_f w2 | exact tnf w2 | exact fnt w2 | exact Int32.not_lt.mp w2 | exact Int32.not_le.mp w2 | exact Int32.not_lt.mpr w2 | exact Int32.not_le.mpr w2) ?_
    refine x_opp rfl rfl ?_
    refine x_kcg rfl ?_
    refine a_icT rfl rfl br_ne (by first | exact w3 | exact nt_f w3 | exact tnf w3 | exact fnt w3 | exact Int32.not_lt.mp w3 | exact Int32.not_le.mp w3 | exact Int32.not_lt.mpr w3 | exact Int32.not_le.mpr w3) ?_
    refine x_kcg rfl ?_
    refine x_go rfl ?_
    refine a_iret rfl rfl rfl ?_
    subst hM2; subst hM1; exact ⟨rfl, _, rfl, R_cl hR⟩
  · by_cases v4 : v < nI 4
    · obtain ⟨k, hk, rfl⟩ := nI_of v0
      rw [nI_ltI hk (by decide)] at v4
      have v4' : nI k < nI 4 := nI_lt v4 (by decide)
      rcases (show k = 0 ∨ k = 1 ∨ k = 2 ∨ k = 3 by omega) with rfl | rfl | rfl | rfl
      · refine x_opp rfl rfl ?_
        refine m_getg (s_0 dy) rfl rfl rfl ?_
        refine a_callV (s_1 dy) rfl rfl rfl rfl (c_clear (s_1 dy) ?_)
        refine x_opp rfl rfl ?_
        rw [hM1]
        refine a_ifF rfl rfl br_lt (by decide) ?_
        refine x_opp rfl rfl ?_
        refine x_opp rfl rfl ?_
        refine m_getg (s_0 dy) rfl rfl rfl ?_
        refine m_alen (s_44 dy) ?_
        refine a_icT rfl rfl br_lt (by decide) ?_
        refine x_opp rfl rfl ?_
        refine m_getg (s_0 dy) rfl rfl rfl ?_
        refine x_opp rfl rfl ?_
        refine a_ialdN (s_44 dy) (k := 0) rfl rfl rfl (by omega) (by decide) ?_
        refine x_go rfl ?_
        refine a_iret rfl rfl rfl ?_
        refine ⟨_, dy, _, rfl, rfl, ?_⟩; refine e_intro rfl rfl ?_
        refine x_opp rfl rfl ?_
        refine x_kcg rfl ?_
        refine a_putJ 19 (s_65 dy) rfl rfl rfl rfl ?_
        refine x_opp rfl rfl ?_
        rw [hM2]
        refine a_ifF rfl rfl br_ne (fun h => h rfl) ?_
        refine x_opp rfl rfl ?_
        refine m_getg (s_65 dy) rfl rfl rfl ?_
        refine x_go rfl ?_
        refine a_iret rfl rfl rfl ?_
        subst hM2; subst hM1
        exact ⟨congrArg (fun x => some (Value.int x)) q0.symm, _, rfl, R_cl hR⟩
      · refine x_opp rfl rfl ?_
        refine m_getg (s_0 dy) rfl rfl rfl ?_
        refine a_callV (s_1 dy) rfl rfl rfl rfl (c_clear (s_1 dy) ?_)
        refine x_opp rfl rfl ?_
        rw [hM1]
        refine a_ifF rfl rfl br_lt (by decide) ?_
        refine x_opp rfl rfl ?_
        refine x_opp rfl rfl ?_
        refine m_getg (s_0 dy) rfl rfl rfl ?_
        refine m_alen (s_44 dy) ?_
        refine a_icT rfl rfl br_lt (by decide) ?_
        refine x_opp rfl rfl ?_
        refine m_getg (s_0 dy) rfl rfl rfl ?_
        refine x_opp rfl rfl ?_
        refine a_ialdN (s_44 dy) (k := 1) rfl rfl rfl (by omega) (by decide) ?_
        refine x_go rfl ?_
        refine a_iret rfl rfl rfl ?_
        refine ⟨_, dy, _, rfl, rfl, ?_⟩; refine e_intro rfl rfl ?_
        refine x_opp rfl rfl ?_
        refine x_kcg rfl ?_
        refine a_putJ 19 (s_65 dy) rfl rfl rfl rfl ?_
        refine x_opp rfl rfl ?_
        rw [hM2]
        refine a_ifT rfl rfl br_ne (by decide) ?_
        refine x_opp rfl rfl ?_
        refine x_kcg rfl ?_
        refine a_icF rfl rfl br_ne (fun h => h rfl) ?_
        refine x_opp rfl rfl ?_
        refine m_getg (s_65 dy) rfl rfl rfl ?_
        refine x_go rfl ?_
        refine a_iret rfl rfl rfl ?_
        subst hM2; subst hM1
        exact ⟨congrArg (fun x => some (Value.int x)) q1.symm, _, rfl, R_cl hR⟩
      · refine x_opp rfl rfl ?_
        refine m_getg (s_0 dy) rfl rfl rfl ?_
        refine a_callV (s_1 dy) rfl rfl rfl rfl (c_clear (s_1 dy) ?_)
        refine x_opp rfl rfl ?_
        rw [hM1]
        refine a_ifF rfl rfl br_lt (by decide) ?_
        refine x_opp rfl rfl ?_
        refine x_opp rfl rfl ?_
        refine m_getg (s_0 dy) rfl rfl rfl ?_
        refine m_alen (s_44 dy) ?_
        refine a_icT rfl rfl br_lt (by decide) ?_
        refine x_opp rfl rfl ?_
        refine m_getg (s_0 dy) rfl rfl rfl ?_
        refine x_opp rfl rfl ?_
        refine a_ialdN (s_44 dy) (k := 2) rfl rfl rfl (by omega) (by decide) ?_
        refine x_go rfl ?_
        refine a_iret rfl rfl rfl ?_
        refine ⟨_, dy, _, rfl, rfl, ?_⟩; refine e_intro rfl rfl ?_
        refine x_opp rfl rfl ?_
        refine x_kcg rfl ?_
        refine a_putJ 19 (s_65 dy) rfl rfl rfl rfl ?_
        refine x_opp rfl rfl ?_
        rw [hM2]
        refine a_ifT rfl rfl br_ne (by decide) ?_
        refine x_opp rfl rfl ?_
        refine x_kcg rfl ?_
        refine a_icT rfl rfl br_ne (by decide) ?_
        refine x_opp rfl rfl ?_
        refine x_kcg rfl ?_
        refine a_icF rfl rfl br_ne (fun h => h rfl) ?_
        refine x_opp rfl rfl ?_
        refine m_getg (s_65 dy) rfl rfl rfl ?_
        refine x_go rfl ?_
        refine a_iret rfl rfl rfl ?_
        subst hM2; subst hM1
        exact ⟨congrArg (fun x => some (Value.int x)) q2.symm, _, rfl, R_cl hR⟩
      · refine x_opp rfl rfl ?_
        refine m_getg (s_0 dy) rfl rfl rfl ?_
        refine a_callV (s_1 dy) rfl rfl rfl rfl (c_clear (s_1 dy) ?_)
        refine x_opp rfl rfl ?_
        rw [hM1]
        refine a_ifF rfl rfl br_lt (by decide) ?_
        refine x_opp rfl rfl ?_
        refine x_opp rfl rfl ?_
        refine m_getg (s_0 dy) rfl rfl rfl ?_
        refine m_alen (s_44 dy) ?_
        refine a_icT rfl rfl br_lt (by decide) ?_
        refine x_opp rfl rfl ?_
        refine m_getg (s_0 dy) rfl rfl rfl ?_
        refine x_opp rfl rfl ?_
        refine a_ialdN (s_44 dy) (k := 3) rfl rfl rfl (by omega) (by decide) ?_
        refine x_go rfl ?_
        refine a_iret rfl rfl rfl ?_
        refine ⟨_, dy, _, rfl, rfl, ?_⟩; refine e_intro rfl rfl ?_
        refine x_opp rfl rfl ?_
        refine x_kcg rfl ?_
        refine a_putJ 19 (s_65 dy) rfl rfl rfl rfl ?_
        refine x_opp rfl rfl ?_
        rw [hM2]
        refine a_ifT rfl rfl br_ne (by decide) ?_
        refine x_opp rfl rfl ?_
        refine x_kcg rfl ?_
        refine a_icT rfl rfl br_ne (by decide) ?_
        refine x_opp rfl rfl ?_
        refine x_kcg rfl ?_
        refine a_icT rfl rfl br_ne (by decide) ?_
        refine x_opp rfl rfl ?_
        refine x_kcg rfl ?_
        refine a_icF rfl rfl br_ne (fun h => h rfl) ?_
        refine x_opp rfl rfl ?_
        refine m_getg (s_65 dy) rfl rfl rfl ?_
        refine x_go rfl ?_
        refine a_iret rfl rfl rfl ?_
        subst hM2; subst hM1
        exact ⟨congrArg (fun x => some (Value.int x)) q3.symm, _, rfl, R_cl hR⟩
    · have w0 : v ≠ 0 := fun e => v4 (by rw [e]; decide)
      have w1 : v ≠ 1 := fun e => v4 (by rw [e]; decide)
      have w2 : v ≠ 2 := fun e => v4 (by rw [e]; decide)
      have w3 : v ≠ 3 := fun e => v4 (by rw [e]; decide)
      refine x_opp rfl rfl ?_
      refine m_getg (s_0 dy) rfl rfl rfl ?_
      refine a_callV (s_1 dy) rfl rfl rfl rfl (c_clear (s_1 dy) ?_)
      refine x_opp rfl rfl ?_
      rw [hM1]
      refine a_ifF rfl rfl br_lt (by first | exact v0 | exact nt_f v0 | exact tnf v0 | exact fnt v0 | exact Int32.not_lt.mp v0 | exact Int32.not_le.mp v0 | exact Int32.not_lt.mpr v0 | exact Int32.not_le.mpr v0) ?_
      refine x_opp rfl rfl ?_
      refine x_opp rfl rfl ?_
      refine m_getg (s_0 dy) rfl rfl rfl ?_
      refine m_alen (s_44 dy) ?_
      refine a_icF rfl rfl br_lt (by first | exact v4 | exact nt_f v4 | exact tnf v4 | exact fnt v4 | exact Int32.not_lt.mp v4 | exact Int32.not_le.mp v4 | exact Int32.not_lt.mpr v4 | exact Int32.not_le.mpr v4) ?_
      refine x_kcg rfl ?_
      refine x_go rfl ?_
      refine a_iret rfl rfl rfl ?_
      refine ⟨_, dy, _, rfl, rfl, ?_⟩; refine e_intro rfl rfl ?_
      refine x_opp rfl rfl ?_
      refine x_kcg rfl ?_
      refine a_putJ 19 (s_65 dy) rfl rfl rfl rfl ?_
      refine x_opp rfl rfl ?_
      rw [hM2]
      refine a_ifT rfl rfl br_ne (by first | exact w0 | exact nt_f w0 | exact tnf w0 | exact fnt w0 | exact Int32.not_lt.mp w0 | exact Int32.not_le.mp w0 | exact Int32.not_lt.mpr w0 | exact Int32.not_le.mpr w0) ?_
      refine x_opp rfl rfl ?_
      refine x_kcg rfl ?_
      refine a_icT rfl rfl br_ne (by first | exact w1 | exact nt_f w1 | exact tnf w1 | exact fnt w1 | exact Int32.not_lt.mp w1 | exact Int32.not_le.mp w1 | exact Int32.not_lt.mpr w1 | exact Int32.not_le.mpr w1) ?_
      refine x_opp rfl rfl ?_
      refine x_kcg rfl ?_
      refine a_icT rfl rfl br_ne (by first | exact w2 | exact nt_f w2 | exact tnf w2 | exact fnt w2 | exact Int32.not_lt.mp w2 | exact Int32.not_le.mp w2 | exact Int32.not_lt.mpr w2 | exact Int32.not_le.mpr w2) ?_
      refine x_opp rfl rfl ?_
      refine x_kcg rfl ?_
      refine a_icT rfl rfl br_ne (by first | exact w3 | exact nt_f w3 | exact tnf w3 | exact fnt w3 | exact Int32.not_lt.mp w3 | exact Int32.not_le.mp w3 | exact Int32.not_lt.mpr w3 | exact Int32.not_le.mpr w3) ?_
      refine x_kcg rfl ?_
      refine x_go rfl ?_
      refine a_iret rfl rfl rfl ?_
      subst hM2; subst hM1; exact ⟨rfl, _, rfl, R_cl hR⟩
theorem gRow_f {h r : Int32} (g : ¬ gRow h r = true) : r < 0 ∨ (¬ r < 0 ∧ h ≤ r) := by
  unfold gRow at g
  by_cases h1 : r < 0
  · exact Or.inl h1
  · rw [if_neg h1] at g
    by_cases h2 : h ≤ r
    · exact Or.inr ⟨h1, h2⟩
    · rw [if_neg h2] at g; exact absurd rfl g
theorem gRow_tt {h r : Int32} (g : gRow h r = true) : ¬ r < 0 ∧ ¬ h ≤ r := by
  unfold gRow at g
  by_cases h1 : r < 0
  · rw [if_pos h1] at g; cases g
  · rw [if_neg h1] at g
    by_cases h2 : h ≤ r
    · rw [if_pos h2] at g; cases g
    · exact ⟨h1, h2⟩
theorem g42r (x k : Nat) : nI x * 42 + nI k = nI (42 * x + k) := by
  rw [show (42 : Int32) = nI 42 from rfl, pk_mul, nI_add, Nat.mul_comm]
set_option maxRecDepth 4000 in
theorem p_first {u v : Int32} (h : rR t dy M) : pr L xs t dy M 110 207 [.int u, .int v] := by
  have hR := h; obtain ⟨s, E, P, w, n, hG, hN, hL, hS, hQ⟩ := h; have z0 : (0 : Int32) = 0 := rfl; have z1 : (0 : Int32) ≤ 0 := (by decide); have z11 : ¬ (1 : Int32) = 0 := (by decide); have z12 : ¬ (1 : Int32) ≤ 0 := (by decide); obtain ⟨M1, hM1⟩ : ∃ M1, m_setI M 1 5 0 = M1 := ⟨_, rfl⟩; have g1 : rG M1 n := hM1 ▸ rG_c hG; obtain ⟨M2, hM2⟩ : ∃ M2, m_setI M1 65 19 0 = M2 := ⟨_, rfl⟩; have g2 : rG M2 n := hM2 ▸ rG_z g1
  unfold pr; refine e_intro rfl rfl ?_
  obtain ⟨⟨k0, m, k3, m42, e7, e58, e8, e59, q⟩, -⟩ := hQ
  have e7' : M1.1 0 7 = nI k0 := by subst hM1; exact e7
  have e8' : M1.1 0 8 = nI m := by subst hM1; exact e8
  have e58' : M2.1 65 58 = nI k0 := by subst hM2; subst hM1; exact e58
  have e59' : M2.1 65 59 = nI m := by subst hM2; subst hM1; exact e59
  by_cases hu : gRow (nI k0) u = true
  · obtain ⟨u0, u1⟩ := gRow_tt hu
    by_cases hv : gRow (nI m) v = true
    · obtain ⟨v0, v1⟩ := gRow_tt hv
      obtain ⟨a, ha, rfl⟩ := gRow_m (by omega) hu
      obtain ⟨b, hb, rfl⟩ := gRow_m (by omega) hv
      refine x_opp rfl rfl ?_
      refine m_getg (s_0 dy) rfl rfl rfl ?_
      refine a_callV (s_1 dy) rfl rfl rfl rfl (c_clear (s_1 dy) ?_)
      refine x_opp rfl rfl ?_
      rw [hM1]
      refine a_ifF rfl rfl br_lt (by first | exact u0 | exact nt_f u0 | exact tnf u0 | exact fnt u0 | exact Int32.not_lt.mp u0 | exact Int32.not_le.mp u0 | exact Int32.not_lt.mpr u0 | exact Int32.not_le.mpr u0) ?_
      refine x_opp rfl rfl ?_
      refine x_opp rfl rfl ?_
      refine m_getg (s_0 dy) rfl rfl rfl ?_
      rw [e7']
      refine a_icF rfl rfl br_ge (by first | exact u1 | exact nt_f u1 | exact tnf u1 | exact fnt u1 | exact Int32.not_lt.mp u1 | exact Int32.not_le.mp u1 | exact Int32.not_lt.mpr u1 | exact Int32.not_le.mpr u1) ?_
      refine x_opp rfl rfl ?_
      refine a_ifF rfl rfl br_lt (by first | exact v0 | exact nt_f v0 | exact tnf v0 | exact fnt v0 | exact Int32.not_lt.mp v0 | exact Int32.not_le.mp v0 | exact Int32.not_lt.mpr v0 | exact Int32.not_le.mpr v0) ?_
      refine x_opp rfl rfl ?_
      refine x_opp rfl rfl ?_
      refine m_getg (s_0 dy) rfl rfl rfl ?_
      rw [e8']
      refine a_icT rfl rfl br_lt (by first | exact v1 | exact nt_f v1 | exact tnf v1 | exact fnt v1 | exact Int32.not_lt.mp v1 | exact Int32.not_le.mp v1 | exact Int32.not_lt.mpr v1 | exact Int32.not_le.mpr v1) ?_
      refine x_opp rfl rfl ?_
      refine m_getg (s_0 dy) rfl rfl rfl ?_
      refine x_opp rfl rfl ?_
      refine x_kcg rfl ?_
      iterate 3 (refine x_opp rfl rfl ?_)
      rw [g42r]
      refine a_laldN (s_43 dy) (k := 42 * a + b) rfl rfl rfl (by omega) (by decide) ?_
      refine a_lret rfl rfl ?_
      refine ⟨_, dy, _, rfl, rfl, ?_⟩; refine e_intro rfl rfl ?_
      refine x_opp rfl rfl ?_
      refine x_kcg rfl ?_
      refine a_putJ 19 (s_65 dy) rfl rfl rfl rfl ?_
      refine x_opp rfl rfl ?_
      refine x_kcg rfl ?_
      refine x_opp rfl rfl ?_
      refine m_getg (s_65 dy) rfl rfl rfl ?_
      refine x_kcg rfl ?_
      refine x_opp rfl rfl ?_
      rw [hM2, e58']
      refine a_callS rfl rfl rfl rfl (k_inN (by omega) ?_)
      refine a_ifF rfl rfl br_eqz (by first | exact hu | exact nt_f hu | exact tnf hu | exact fnt hu | exact Int32.not_lt.mp hu | exact Int32.not_le.mp hu | exact Int32.not_lt.mpr hu | exact Int32.not_le.mpr hu) ?_
      refine x_opp rfl rfl ?_
      refine x_kcg rfl ?_
      refine x_opp rfl rfl ?_
      refine m_getg (s_65 dy) rfl rfl rfl ?_
      refine x_kcg rfl ?_
      refine x_opp rfl rfl ?_
      rw [e59']
      refine a_callS rfl rfl rfl rfl (k_inN (by omega) ?_)
      refine a_ifF rfl rfl br_eqz (by first | exact hv | exact nt_f hv | exact tnf hv | exact fnt hv | exact Int32.not_lt.mp hv | exact Int32.not_le.mp hv | exact Int32.not_lt.mpr hv | exact Int32.not_le.mpr hv) ?_
      refine x_opp rfl rfl ?_
      refine m_getg (s_65 dy) rfl rfl rfl ?_
      refine x_kcg rfl ?_
      iterate 4 (refine x_opp rfl rfl ?_)
      rw [g48]
      refine a_laldN (s_109 dy) (k := 48 * a + b) rfl rfl rfl (by omega) (by decide) ?_
      refine x_go rfl ?_
      refine a_lret rfl rfl ?_
      subst hM2; subst hM1
      exact ⟨congrArg (fun x => some (Value.long x)) (q a b ha hb).symm, _, rfl, R_cl hR⟩
    · have fin : sm_E L xs 100 207 [.ref 65, .int u, .int v] (wm (sh0 ++ dy) M1) (fun r w => r = some (.long 0) ∧ ∃ M2, w = wm (sh0 ++ dy) M2 ∧ rR (t + 1) dy M2) := by
        refine e_intro rfl rfl ?_
        refine x_opp rfl rfl ?_
        refine x_kcg rfl ?_
        refine a_putJ 19 (s_65 dy) rfl rfl rfl rfl ?_
        refine x_opp rfl rfl ?_
        refine x_kcg rfl ?_
        refine x_opp rfl rfl ?_
        refine m_getg (s_65 dy) rfl rfl rfl ?_
        refine x_kcg rfl ?_
        refine x_opp rfl rfl ?_
        rw [hM2, e58']
        refine a_callS rfl rfl rfl rfl (k_inN (by omega) ?_)
        refine a_ifF rfl rfl br_eqz (by first | exact hu | exact nt_f hu | exact tnf hu | exact fnt hu | exact Int32.not_lt.mp hu | exact Int32.not_le.mp hu | exact Int32.not_lt.mpr hu | exact Int32.not_le.mpr hu) ?_
        refine x_opp rfl rfl ?_
        refine x_kcg rfl ?_
        refine x_opp rfl rfl ?_
        refine m_getg (s_65 dy) rfl rfl rfl ?_
        refine x_kcg rfl ?_
        refine x_opp rfl rfl ?_
        rw [e59']
        refine a_callS rfl rfl rfl rfl (k_inN (by omega) ?_)
        refine a_ifT rfl rfl br_eqz (by first | exact hv | exact nt_f hv | exact tnf hv | exact fnt hv | exact Int32.not_lt.mp hv | exact Int32.not_le.mp hv | exact Int32.not_lt.mpr hv | exact Int32.not_le.mpr hv) ?_
        refine x_opp rfl rfl ?_
        refine x_go rfl ?_
        refine a_lret rfl rfl ?_
        subst hM2; subst hM1; exact ⟨rfl, _, rfl, R_cl hR⟩
      rcases gRow_f hv with v0 | ⟨v0, v1⟩
      · refine x_opp rfl rfl ?_
        refine m_getg (s_0 dy) rfl rfl rfl ?_
        refine a_callV (s_1 dy) rfl rfl rfl rfl (c_clear (s_1 dy) ?_)
        refine x_opp rfl rfl ?_
        rw [hM1]
        refine a_ifF rfl rfl br_lt (by first | exact u0 | exact nt_f u0 | exact tnf u0 | exact fnt u0 | exact Int32.not_lt.mp u0 | exact Int32.not_le.mp u0 | exact Int32.not_lt.mpr u0 | exact Int32.not_le.mpr u0) ?_
        refine x_opp rfl rfl ?_
        refine x_opp rfl rfl ?_
        refine m_getg (s_0 dy) rfl rfl rfl ?_
        rw [e7']
        refine a_icF rfl rfl br_ge (by first | exact u1 | exact nt_f u1 | exact tnf u1 | exact fnt u1 | exact Int32.not_lt.mp u1 | exact Int32.not_le.mp u1 | exact Int32.not_lt.mpr u1 | exact Int32.not_le.mpr u1) ?_
        refine x_opp rfl rfl ?_
        refine a_ifT rfl rfl br_lt (by first | exact v0 | exact nt_f v0 | exact tnf v0 | exact fnt v0 | exact Int32.not_lt.mp v0 | exact Int32.not_le.mp v0 | exact Int32.not_lt.mpr v0 | exact Int32.not_le.mpr v0) ?_
        refine x_opp rfl rfl ?_
        refine a_lret rfl rfl ?_
        exact ⟨_, dy, _, rfl, rfl, fin⟩
      · refine x_opp rfl rfl ?_
        refine m_getg (s_0 dy) rfl rfl rfl ?_
        refine a_callV (s_1 dy) rfl rfl rfl rfl (c_clear (s_1 dy) ?_)
        refine x_opp rfl rfl ?_
        rw [hM1]
        refine a_ifF rfl rfl br_lt (by first | exact u0 | exact nt_f u0 | exact tnf u0 | exact fnt u0 | exact Int32.not_lt.mp u0 | exact Int32.not_le.mp u0 | exact Int32.not_lt.mpr u0 | exact Int32.not_le.mpr u0) ?_
        refine x_opp rfl rfl ?_
        refine x_opp rfl rfl ?_
        refine m_getg (s_0 dy) rfl rfl rfl ?_
        rw [e7']
        refine a_icF rfl rfl br_ge (by first | exact u1 | exact nt_f u1 | exact tnf u1 | exact fnt u1 | exact Int32.not_lt.mp u1 | exact Int32.not_le.mp u1 | exact Int32.not_lt.mpr u1 | exact Int32.not_le.mpr u1) ?_
        refine x_opp rfl rfl ?_
        refine a_ifF rfl rfl br_lt (by first | exact v0 | exact nt_f v0 | exact tnf v0 | exact fnt v0 | exact Int32.not_lt.mp v0 | exact Int32.not_le.mp v0 | exact Int32.not_lt.mpr v0 | exact Int32.not_le.mpr v0) ?_
        refine x_opp rfl rfl ?_
        refine x_opp rfl rfl ?_
        refine m_getg (s_0 dy) rfl rfl rfl ?_
        rw [e8']
        refine a_icF rfl rfl br_lt (by first | exact v1 | exact nt_f v1 | exact tnf v1 | exact fnt v1 | exact Int32.not_lt.mp v1 | exact Int32.not_le.mp v1 | exact Int32.not_lt.mpr v1 | exact Int32.not_le.mpr v1) ?_
        refine x_opp rfl rfl ?_
        refine a_lret rfl rfl ?_
        exact ⟨_, dy, _, rfl, rfl, fin⟩
  · have fin : sm_E L xs 100 207 [.ref 65, .int u, .int v] (wm (sh0 ++ dy) M1) (fun r w => r = some (.long 0) ∧ ∃ M2, w = wm (sh0 ++ dy) M2 ∧ rR (t + 1) dy M2) := by
      refine e_intro rfl rfl ?_
      refine x_opp rfl rfl ?_
      refine x_kcg rfl ?_
      refine a_putJ 19 (s_65 dy) rfl rfl rfl rfl ?_
      refine x_opp rfl rfl ?_
      refine x_kcg rfl ?_
      refine x_opp rfl rfl ?_
      refine m_getg (s_65 dy) rfl rfl rfl ?_
      refine x_kcg rfl ?_
      refine x_opp rfl rfl ?_
      rw [hM2, e58']
      refine a_callS rfl rfl rfl rfl (k_inN (by omega) ?_)
      refine a_ifT rfl rfl br_eqz (by first | exact hu | exact nt_f hu | exact tnf hu | exact fnt hu | exact Int32.not_lt.mp hu | exact Int32.not_le.mp hu | exact Int32.not_lt.mpr hu | exact Int32.not_le.mpr hu) ?_
      refine x_opp rfl rfl ?_
      refine x_go rfl ?_
      refine a_lret rfl rfl ?_
      subst hM2; subst hM1; exact ⟨rfl, _, rfl, R_cl hR⟩
    rcases gRow_f hu with u0 | ⟨u0, u1⟩
    · refine x_opp rfl rfl ?_
      refine m_getg (s_0 dy) rfl rfl rfl ?_
      refine a_callV (s_1 dy) rfl rfl rfl rfl (c_clear (s_1 dy) ?_)
      refine x_opp rfl rfl ?_
      rw [hM1]
      refine a_ifT rfl rfl br_lt (by first | exact u0 | exact nt_f u0 | exact tnf u0 | exact fnt u0 | exact Int32.not_lt.mp u0 | exact Int32.not_le.mp u0 | exact Int32.not_lt.mpr u0 | exact Int32.not_le.mpr u0) ?_
      refine x_opp rfl rfl ?_
      refine a_lret rfl rfl ?_
      exact ⟨_, dy, _, rfl, rfl, fin⟩
    · refine x_opp rfl rfl ?_
      refine m_getg (s_0 dy) rfl rfl rfl ?_
      refine a_callV (s_1 dy) rfl rfl rfl rfl (c_clear (s_1 dy) ?_)
      refine x_opp rfl rfl ?_
      rw [hM1]
      refine a_ifF rfl rfl br_lt (by first | exact u0 | exact nt_f u0 | exact tnf u0 | exact fnt u0 | exact Int32.not_lt.mp u0 | exact Int32.not_le.mp u0 | exact Int32.not_lt.mpr u0 | exact Int32.not_le.mpr u0) ?_
      refine x_opp rfl rfl ?_
      refine x_opp rfl rfl ?_
      refine m_getg (s_0 dy) rfl rfl rfl ?_
      rw [e7']
      refine a_icT rfl rfl br_ge (by first | exact u1 | exact nt_f u1 | exact tnf u1 | exact fnt u1 | exact Int32.not_lt.mp u1 | exact Int32.not_le.mp u1 | exact Int32.not_lt.mpr u1 | exact Int32.not_le.mpr u1) ?_
      refine x_opp rfl rfl ?_
      refine a_lret rfl rfl ?_
      exact ⟨_, dy, _, rfl, rfl, fin⟩
theorem c_lat {j B : Nat} {f : Nat → Int32} (tr : cTr M (B, f)) (hj : j < min B 100) (hq : Q (some (.int (f ((B - 1 - j) % 100)))) (wm (sh0 ++ dy) M)) : sm_E L xs (d + 2) 138 [.ref 1, .int (nI j)] (wm (sh0 ++ dy) M) Q := by
  obtain ⟨c1, c2, c3, c4⟩ := tr
  have e : fMod (M.1 1 2 - 1 - nI j) 100 = nI ((B - 1 - j) % 100) := by
    rw [c1]
    show fMod (nI (B % 100) - 1 - nI j) 100 = _
    rw [fm_dec _ (by omega) _ (by omega)]
    congr 1
    omega
  refine c_latest (s_1 dy) (s_2 dy) (by rw [e]; exact vp_in_nI (by omega) (by decide)) ?_
  rw [e, nI_clamp (by omega), c4 _ (by omega)]
  exact hq
set_option maxRecDepth 4000 in
theorem p_trace {v : Int32} (ht : t ≤ 512) (h : rR t dy M) : pr L xs t dy M 137 226 [.int v] := by
  have hR := h
  obtain ⟨s, E, P, w, n, hG, hN, hL, hS, hQ⟩ := h
  unfold pr; refine e_intro rfl rfl ?_
  obtain ⟨B, f⟩ := s
  have ct := hN.1
  obtain ⟨c1, c2, c3, c4⟩ := hN.1
  obtain ⟨m1, m2⟩ := hN.2.1
  have hB : B ≤ 204120 * t := hN.2.2.2.2
  have c2 : M.1 1 3 = nI (min B 100) := c2
  have m1 : M.1 65 22 = nI B := m1
  have k1 : (¬ (100 : Int32) ≤ nI B ∧ min B 100 = B) ∨ ((100 : Int32) ≤ nI B ∧ min B 100 = 100) := by
    by_cases q : B < 100
    · exact Or.inl ⟨nI_ge (b := 100) q (by decide), by omega⟩
    · exact Or.inr ⟨nI_le (a := 100) (by omega) (by omega), by omega⟩
  by_cases hv : gRow (nI (min B 100)) v = true
  · obtain ⟨u0, u1⟩ := gRow_tt hv
    obtain ⟨j, hj, rfl⟩ := gRow_m (by omega) hv
    have er : nI (B - 1 - j) - nI (B - 1 - j) / 100 * 100 = nI ((B - 1 - j) % 100) := pk_rem (d := 100) (by omega) (by decide) (by decide)
    have es : nI B - 1 - nI j = nI (B - 1 - j) := by
      rw [show (1 : Int32) = nI 1 from rfl, nI_sub (by omega), nI_sub (by omega)]
    have mq := m2 ((B - 1 - j) % 100) (by omega)
    refine x_opp rfl rfl ?_
    refine a_ifF rfl rfl br_lt (by first | exact u0 | exact nt_f u0 | exact tnf u0 | exact fnt u0 | exact Int32.not_lt.mp u0 | exact Int32.not_le.mp u0 | exact Int32.not_lt.mpr u0 | exact Int32.not_le.mpr u0) ?_
    refine x_opp rfl rfl ?_
    refine x_opp rfl rfl ?_
    refine m_getg (s_0 dy) rfl rfl rfl ?_
    refine m_getg (s_1 dy) rfl rfl rfl ?_
    rw [c2]
    refine a_icT rfl rfl br_lt (by first | exact u1 | exact nt_f u1 | exact tnf u1 | exact fnt u1 | exact Int32.not_lt.mp u1 | exact Int32.not_le.mp u1 | exact Int32.not_lt.mpr u1 | exact Int32.not_le.mpr u1) ?_
    refine x_opp rfl rfl ?_
    refine m_getg (s_0 dy) rfl rfl rfl ?_
    refine x_opp rfl rfl ?_
    refine a_callV (s_1 dy) rfl rfl rfl rfl (c_lat ct hj ?_)
    refine x_go rfl ?_
    refine a_iret rfl rfl rfl ?_
    refine ⟨_, dy, _, rfl, rfl, ?_⟩; refine e_intro rfl rfl ?_
    rcases k1 with ⟨q1, q2⟩ | ⟨q1, q2⟩
    · rw [q2] at hv
      refine x_opp rfl rfl ?_
      refine m_getg (s_65 dy) rfl rfl rfl ?_
      refine x_kcg rfl ?_
      rw [m1]
      refine a_icF rfl rfl br_ge (by first | exact q1 | exact nt_f q1 | exact tnf q1 | exact fnt q1 | exact Int32.not_lt.mp q1 | exact Int32.not_le.mp q1 | exact Int32.not_lt.mpr q1 | exact Int32.not_le.mpr q1) ?_
      refine x_opp rfl rfl ?_
      refine m_getg (s_65 dy) rfl rfl rfl ?_
      refine x_go rfl ?_
      refine x_opp rfl rfl ?_
      refine x_opp rfl rfl ?_
      refine x_kcg rfl ?_
      refine x_opp rfl rfl ?_
      refine x_kcg rfl ?_
      refine x_opp rfl rfl ?_
      rw [m1]
      refine a_callS rfl rfl rfl rfl (k_inN (by omega) ?_)
      refine a_ifF rfl rfl br_eqz (by first | exact hv | exact nt_f hv | exact tnf hv | exact fnt hv | exact Int32.not_lt.mp hv | exact Int32.not_le.mp hv | exact Int32.not_lt.mpr hv | exact Int32.not_le.mpr hv) ?_
      refine x_opp rfl rfl ?_
      refine m_getg (s_65 dy) rfl rfl rfl ?_
      refine x_opp rfl rfl ?_
      refine m_getg (s_65 dy) rfl rfl rfl ?_
      refine x_kcg rfl ?_
      iterate 3 (refine x_opp rfl rfl ?_)
      refine x_kcg rfl ?_
      refine x_irem (by first | exact z100 | exact nt_f z100 | exact tnf z100 | exact fnt z100 | exact Int32.not_lt.mp z100 | exact Int32.not_le.mp z100 | exact Int32.not_lt.mpr z100 | exact Int32.not_le.mpr z100) ?_
      rw [m1, es, er]
      refine a_ialdN (s_85 dy) (k := (B - 1 - j) % 100) rfl rfl rfl (by omega) (by decide) ?_
      refine x_go rfl ?_
      refine a_iret rfl rfl rfl ?_
      exact ⟨congrArg (fun x => some (Value.int x)) mq, _, rfl, R_up hR⟩
    · rw [q2] at hv
      refine x_opp rfl rfl ?_
      refine m_getg (s_65 dy) rfl rfl rfl ?_
      refine x_kcg rfl ?_
      rw [m1]
      refine a_icT rfl rfl br_ge (by first | exact q1 | exact nt_f q1 | exact tnf q1 | exact fnt q1 | exact Int32.not_lt.mp q1 | exact Int32.not_le.mp q1 | exact Int32.not_lt.mpr q1 | exact Int32.not_le.mpr q1) ?_
      refine x_kcg rfl ?_
      refine x_go rfl ?_
      refine x_opp rfl rfl ?_
      refine x_opp rfl rfl ?_
      refine x_kcg rfl ?_
      refine x_opp rfl rfl ?_
      refine x_kcg rfl ?_
      refine x_opp rfl rfl ?_
      refine a_callS rfl rfl rfl rfl (k_inN (m := 100) (by omega) ?_)
      refine a_ifF rfl rfl br_eqz (by first | exact hv | exact nt_f hv | exact tnf hv | exact fnt hv | exact Int32.not_lt.mp hv | exact Int32.not_le.mp hv | exact Int32.not_lt.mpr hv | exact Int32.not_le.mpr hv) ?_
      refine x_opp rfl rfl ?_
      refine m_getg (s_65 dy) rfl rfl rfl ?_
      refine x_opp rfl rfl ?_
      refine m_getg (s_65 dy) rfl rfl rfl ?_
      refine x_kcg rfl ?_
      iterate 3 (refine x_opp rfl rfl ?_)
      refine x_kcg rfl ?_
      refine x_irem (by first | exact z100 | exact nt_f z100 | exact tnf z100 | exact fnt z100 | exact Int32.not_lt.mp z100 | exact Int32.not_le.mp z100 | exact Int32.not_lt.mpr z100 | exact Int32.not_le.mpr z100) ?_
      rw [m1, es, er]
      refine a_ialdN (s_85 dy) (k := (B - 1 - j) % 100) rfl rfl rfl (by omega) (by decide) ?_
      refine x_go rfl ?_
      refine a_iret rfl rfl rfl ?_
      exact ⟨congrArg (fun x => some (Value.int x)) mq, _, rfl, R_up hR⟩
  · have fin : sm_E L xs 100 226 [.ref 65, .int v] (wm (sh0 ++ dy) M) (fun r w => r = some (.int (-5)) ∧ ∃ M2, w = wm (sh0 ++ dy) M2 ∧ rR (t + 1) dy M2) := by
      refine e_intro rfl rfl ?_
      rcases k1 with ⟨q1, q2⟩ | ⟨q1, q2⟩
      · rw [q2] at hv
        refine x_opp rfl rfl ?_
        refine m_getg (s_65 dy) rfl rfl rfl ?_
        refine x_kcg rfl ?_
        rw [m1]
        refine a_icF rfl rfl br_ge (by first | exact q1 | exact nt_f q1 | exact tnf q1 | exact fnt q1 | exact Int32.not_lt.mp q1 | exact Int32.not_le.mp q1 | exact Int32.not_lt.mpr q1 | exact Int32.not_le.mpr q1) ?_
        refine x_opp rfl rfl ?_
        refine m_getg (s_65 dy) rfl rfl rfl ?_
        refine x_go rfl ?_
        refine x_opp rfl rfl ?_
        refine x_opp rfl rfl ?_
        refine x_kcg rfl ?_
        refine x_opp rfl rfl ?_
        refine x_kcg rfl ?_
        refine x_opp rfl rfl ?_
        rw [m1]
        refine a_callS rfl rfl rfl rfl (k_inN (by omega) ?_)
        refine a_ifT rfl rfl br_eqz (by first | exact hv | exact nt_f hv | exact tnf hv | exact fnt hv | exact Int32.not_lt.mp hv | exact Int32.not_le.mp hv | exact Int32.not_lt.mpr hv | exact Int32.not_le.mpr hv) ?_
        refine x_kcg rfl ?_
        refine x_go rfl ?_
        refine a_iret rfl rfl rfl ?_
        exact ⟨rfl, _, rfl, R_up hR⟩
      · rw [q2] at hv
        refine x_opp rfl rfl ?_
        refine m_getg (s_65 dy) rfl rfl rfl ?_
        refine x_kcg rfl ?_
        rw [m1]
        refine a_icT rfl rfl br_ge (by first | exact q1 | exact nt_f q1 | exact tnf q1 | exact fnt q1 | exact Int32.not_lt.mp q1 | exact Int32.not_le.mp q1 | exact Int32.not_lt.mpr q1 | exact Int32.not_le.mpr q1) ?_
        refine x_kcg rfl ?_
        refine x_go rfl ?_
        refine x_opp rfl rfl ?_
        refine x_opp rfl rfl ?_
        refine x_kcg rfl ?_
        refine x_opp rfl rfl ?_
        refine x_kcg rfl ?_
        refine x_opp rfl rfl ?_
        refine a_callS rfl rfl rfl rfl (k_inN (m := 100) (by omega) ?_)
        refine a_ifT rfl rfl br_eqz (by first | exact hv | exact nt_f hv | exact tnf hv | exact fnt hv | exact Int32.not_lt.mp hv | exact Int32.not_le.mp hv | exact Int32.not_lt.mpr hv | exact Int32.not_le.mpr hv) ?_
        refine x_kcg rfl ?_
        refine x_go rfl ?_
        refine a_iret rfl rfl rfl ?_
        exact ⟨rfl, _, rfl, R_up hR⟩
    rcases gRow_f hv with u0 | ⟨u0, u1⟩
    · refine x_opp rfl rfl ?_
      refine a_ifT rfl rfl br_lt (by first | exact u0 | exact nt_f u0 | exact tnf u0 | exact fnt u0 | exact Int32.not_lt.mp u0 | exact Int32.not_le.mp u0 | exact Int32.not_lt.mpr u0 | exact Int32.not_le.mpr u0) ?_
      refine x_kcg rfl ?_
      refine x_go rfl ?_
      refine a_iret rfl rfl rfl ?_
      exact ⟨_, dy, _, rfl, rfl, fin⟩
    · refine x_opp rfl rfl ?_
      refine a_ifF rfl rfl br_lt (by first | exact u0 | exact nt_f u0 | exact tnf u0 | exact fnt u0 | exact Int32.not_lt.mp u0 | exact Int32.not_le.mp u0 | exact Int32.not_lt.mpr u0 | exact Int32.not_le.mpr u0) ?_
      refine x_opp rfl rfl ?_
      refine x_opp rfl rfl ?_
      refine m_getg (s_0 dy) rfl rfl rfl ?_
      refine m_getg (s_1 dy) rfl rfl rfl ?_
      rw [c2]
      refine a_icF rfl rfl br_lt (by first | exact u1 | exact nt_f u1 | exact tnf u1 | exact fnt u1 | exact Int32.not_lt.mp u1 | exact Int32.not_le.mp u1 | exact Int32.not_lt.mpr u1 | exact Int32.not_le.mpr u1) ?_
      refine x_kcg rfl ?_
      refine x_go rfl ?_
      refine a_iret rfl rfl rfl ?_
      exact ⟨_, dy, _, rfl, rfl, fin⟩
end TL
