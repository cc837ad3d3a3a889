/-! pairs: a letter, a black -/
section PD
variable {L : Nat} {xs : Nat → Int32} {t d : Nat} {dy : List sh_T} {M : mm_T} {Q : Option Value → sm_W → Prop} {n G : Nat}
theorem lt_new {m v : Nat} (hm : m < 32) (hv : v < 32) (x y : Int32) : (nI m + (if x = 0 then 0 else 32) + (if y = 0 then 0 else 64)) &&& (-32) ||| nI v = nI v + (if x = 0 then 0 else 32) + (if y = 0 then 0 else 64) := by
  have k := lt_dec m hm v hv (decide (x = 0)) (decide (y = 0))
  simp only [decide_eq_true_eq] at k
  exact k
/-- a new sign in a visible square, on both sides -/
theorem R_sign {M' : mm_T} {s : Nat × (Nat → Int32)} {E : Nat → lT} {P w : Nat → Nat} {i j v : Nat} (hN : rN M t s) (hL : rL dy M E P w n) (hQ : rQ M) (hg : rG M n) (hG : G < 4) (hv : v < 32) (hi : ∀ H, H ≤ 7 → M.1 67 G = nI H → i < H) (hj : j < (mL M G i).toNatClampNeg) (i7 : i < 7) (j7 : j < 7)
    {c0 : Int32} (hc0 : c0 = M.1 (46 + 5 * G) (i * 7 + j)) (e : M' = m_setI (m_setI (m_setI (m_setI (m_setI (m_setI M 1 5 0) (46 + 5 * G) (i * 7 + j) (c0 &&& (-32) ||| nI v)) 0 11 0) 65 19 0) 70 (49 * G + (i * 7 + j)) (nI v)) 65 38 0) : rR (t + 1) dy M' := by
  obtain ⟨u1, -⟩ := rG_vis hg hG hi hj i7 j7
  obtain ⟨⟨m, hm, e70⟩, m1, m2⟩ := hg.1 (49 * G + (i * 7 + j)) (by omega)
  have e71 : M'.1 71 = M.1 71 := by rw [e]; (repeat (rw [mI_ne _ _ _ (by omega)]))
  have e72 : M'.1 72 = M.1 72 := by rw [e]; (repeat (rw [mI_ne _ _ _ (by omega)]))
  have n70 : M'.1 70 (49 * G + (i * 7 + j)) = nI v := by subst e; (repeat (first | rw [mI_at, if_neg (by omega)] | rw [mI_at, if_pos ⟨rfl, rfl⟩] | rw [mA_at, if_neg (by omega)] | rw [mA_at, if_pos rfl] | rw [mL_1] | rw [mR_1]))
  have nc : M'.1 (46 + 5 * G) (i * 7 + j) = M.1 (46 + 5 * G) (i * 7 + j) &&& (-32) ||| nI v := by subst e; rw [← hc0]; (repeat (first | rw [mI_at, if_neg (by omega)] | rw [mI_at, if_pos ⟨rfl, rfl⟩] | rw [mA_at, if_neg (by omega)] | rw [mA_at, if_pos rfl] | rw [mL_1] | rw [mR_1]))
  refine R_g hN hL hQ (rG_sq (i0 := i) (j0 := j) hg hG i7 j7 (fun a i h x y => by subst e; repeat (first | rw [mI_at, if_neg (by omega)])) (by rw [e]; rfl) ?_ ⟨⟨v, hv, n70⟩, ?_, ?_⟩ (Or.inl (by rw [e71]))) (by subst e; exact (fun a i h => by repeat (first | rw [mI_at, if_neg (by omega)] | rw [mA_at, if_neg (by omega)] | rw [mL_1] | rw [mR_1]))) (by rw [e]; rfl) (by rw [e]; rfl) (by subst e; (repeat (first | rw [mI_at, if_neg (by omega)] | rw [mI_at, if_pos ⟨rfl, rfl⟩] | rw [mA_at, if_neg (by omega)] | rw [mA_at, if_pos rfl] | rw [mL_1] | rw [mR_1]))) (by subst e; (repeat (first | rw [mI_at, if_neg (by omega)] | rw [mI_at, if_pos ⟨rfl, rfl⟩] | rw [mA_at, if_neg (by omega)] | rw [mA_at, if_pos rfl] | rw [mL_1] | rw [mR_1]))) (by subst e; (repeat (first | rw [mI_at, if_neg (by omega)] | rw [mI_at, if_pos ⟨rfl, rfl⟩] | rw [mA_at, if_neg (by omega)] | rw [mA_at, if_pos rfl] | rw [mL_1] | rw [mR_1])))
  · unfold mC tld
    rw [nc, n70, e71, e72, u1]
    unfold mC tld
    rw [e70]
    exact lt_new hm hv _ _
  · rw [e71]; exact m1
  · rw [e72]; exact m2
set_option maxRecDepth 4000 in
theorem p_letter {g r c v : Int32} (h : rR t dy M) : pr L xs t dy M 17 155 [.int g, .int r, .int c, .int v] := by
  have hR := h; obtain ⟨s, E, P, w, n, hG, hN, hL, hS, hQ⟩ := h; have z0 : (0 : Int32) = 0 := rfl; have z1 : (0 : Int32) ≤ 0 := (by decide); have z11 : ¬ (1 : Int32) = 0 := (by decide); have z12 : ¬ (1 : Int32) ≤ 0 := (by decide); obtain ⟨M1, hM1⟩ : ∃ M1, m_setI M 1 5 0 = M1 := ⟨_, rfl⟩; have g1 : rG M1 n := hM1 ▸ rG_c hG; obtain ⟨M2, hM2⟩ : ∃ M2, m_setI M1 65 19 0 = M2 := ⟨_, rfl⟩; have g2 : rG M2 n := hM2 ▸ rG_z g1
  unfold pr; refine e_intro rfl rfl ?_
  by_cases hg : gRow 4 g = true
  · obtain ⟨G, hG4, rfl⟩ := gRow4 hg
    have hgr := g1.2.1 G hG4; obtain ⟨sg, sc, sl, ssp, sre, sne⟩ := gsh_at dy G hG4
    by_cases hv : inR v 0 26 = true
    · obtain ⟨hv0, hv1⟩ := inR_26 hv
      obtain ⟨vv, hvv, rfl⟩ := nI_ofm (m := 26) hv0 hv1 (by decide)
      rcases gSR_r (M1.1 66 G) (M1.1 67 G) (mL M1 G) r c with e | ⟨k, hk, e⟩
      · obtain ⟨i, j, rfl, rfl, i1, i2, i3, i4, i5⟩ := sr_0 g1 hG4 e
        have e1 : sr M1 G (nI i) (nI j) = 0 := e
        obtain ⟨u1, u2, u3, u4⟩ := rG_vis g1 hG4 i3 i4 i1 i2
        by_cases q : M1.1 70 (49 * G + (i * 7 + j)) = 27
        · have e2 : sr M2 G (nI i) (nI j) = 0 := by subst hM2; exact e
          have q2 : M2.1 70 (49 * G + (i * 7 + j)) = 27 := by subst hM2; exact q
          have qn : ¬ (27 : Int32) ≠ 27 := fun h => h rfl
          refine x_opp rfl rfl ?_
          refine m_getg (s_0 dy) rfl rfl rfl ?_
          refine a_callV (s_1 dy) rfl rfl rfl rfl (c_clear (s_1 dy) ?_)
          refine x_opp rfl rfl ?_
          refine a_callS rfl rfl rfl rfl (c_isGridNumber ?_)
          rw [hM1]
          refine a_ifF rfl rfl br_eqz (by first | exact hg | exact nt_f hg | exact tnf hg | exact fnt hg | exact Int32.not_lt.mp hg | exact Int32.not_le.mp hg | exact Int32.not_lt.mpr hg | exact Int32.not_le.mpr hg) ?_
          refine x_opp rfl rfl ?_
          refine a_ifF rfl rfl br_lt (by first | exact hv0 | exact nt_f hv0 | exact tnf hv0 | exact fnt hv0 | exact Int32.not_lt.mp hv0 | exact Int32.not_le.mp hv0 | exact Int32.not_lt.mpr hv0 | exact Int32.not_le.mpr hv0) ?_
          refine x_opp rfl rfl ?_
          refine x_kcg rfl ?_
          refine a_icT rfl rfl br_le (by first | exact hv1 | exact nt_f hv1 | exact tnf hv1 | exact fnt hv1 | exact Int32.not_lt.mp hv1 | exact Int32.not_le.mp hv1 | exact Int32.not_lt.mpr hv1 | exact Int32.not_le.mpr hv1) ?_
          refine x_opp rfl rfl ?_
          refine m_getg (s_0 dy) rfl rfl rfl ?_
          refine x_opp rfl rfl ?_
          refine a_gr hG4 rfl rfl hgr ?_
          iterate 4 (refine x_opp rfl rfl ?_)
          refine a_callV sg rfl rfl rfl rfl (c_sq hG4 g1 ?_)
          rw [e1]
          refine x_opp rfl rfl ?_
          refine x_opp rfl rfl ?_
          refine a_ifT rfl rfl br_eq (by decide) ?_
          iterate 3 (refine x_opp rfl rfl ?_)
          refine a_callV sg rfl rfl rfl rfl (c_sign hG4 i1 i2 ?_)
          rw [u2, q]
          refine x_opp rfl rfl ?_
          refine x_opp rfl rfl ?_
          refine x_kcg rfl ?_
          refine a_icF rfl rfl br_ne (by first | exact qn | exact nt_f qn | exact tnf qn | exact fnt qn | exact Int32.not_lt.mp qn | exact Int32.not_le.mp qn | exact Int32.not_lt.mpr qn | exact Int32.not_le.mpr qn) ?_
          refine x_kcg rfl ?_
          refine a_iret rfl rfl rfl ?_
          refine ⟨_, dy, _, rfl, rfl, ?_⟩; refine e_intro rfl rfl ?_
          refine x_opp rfl rfl ?_
          refine x_kcg rfl ?_
          refine a_putJ 19 (s_65 dy) rfl rfl rfl rfl ?_
          refine x_opp rfl rfl ?_
          refine a_callS rfl rfl rfl rfl (k_isGrid ?_)
          rw [hM2]
          refine a_ifF rfl rfl br_eqz (by first | exact hg | exact nt_f hg | exact tnf hg | exact fnt hg | exact Int32.not_lt.mp hg | exact Int32.not_le.mp hg | exact Int32.not_lt.mpr hg | exact Int32.not_le.mpr hg) ?_
          refine x_opp rfl rfl ?_
          refine x_kcg rfl ?_
          refine x_kcg rfl ?_
          refine a_callS rfl rfl rfl rfl (k_in ?_)
          refine a_ifT rfl rfl br_nez (by first | exact hv | exact nt_f hv | exact tnf hv | exact fnt hv | exact Int32.not_lt.mp hv | exact Int32.not_le.mp hv | exact Int32.not_lt.mpr hv | exact Int32.not_le.mpr hv) ?_
          iterate 4 (refine x_opp rfl rfl ?_)
          refine a_callV (s_65 dy) rfl rfl rfl rfl (k_wr hG4 g2 ?_)
          rw [e2]
          refine x_opp rfl rfl ?_
          refine x_opp rfl rfl ?_
          refine a_ifT rfl rfl br_le (by decide) ?_
          refine x_opp rfl rfl ?_
          refine m_getg (s_65 dy) rfl rfl rfl ?_
          iterate 3 (refine x_opp rfl rfl ?_)
          refine a_callS rfl rfl rfl rfl (k_sq ?_)
          refine a_ialdN (s_70 dy) (k := 49 * G + (i * 7 + j)) rfl rfl rfl (by omega) (by decide) ?_
          refine x_opp rfl rfl ?_
          refine x_opp rfl rfl ?_
          refine x_kcg rfl ?_
          rw [q2]
          refine a_icF rfl rfl br_ne (by first | exact qn | exact nt_f qn | exact tnf qn | exact fnt qn | exact Int32.not_lt.mp qn | exact Int32.not_le.mp qn | exact Int32.not_lt.mpr qn | exact Int32.not_le.mpr qn) ?_
          refine x_kcg rfl ?_
          refine a_iret rfl rfl rfl ?_
          subst hM2; subst hM1; exact ⟨rfl, _, rfl, R_cl hR⟩
        · refine x_opp rfl rfl ?_
          refine m_getg (s_0 dy) rfl rfl rfl ?_
          refine a_callV (s_1 dy) rfl rfl rfl rfl (c_clear (s_1 dy) ?_)
          refine x_opp rfl rfl ?_
          refine a_callS rfl rfl rfl rfl (c_isGridNumber ?_)
          rw [hM1]
          refine a_ifF rfl rfl br_eqz (by first | exact hg | exact nt_f hg | exact tnf hg | exact fnt hg | exact Int32.not_lt.mp hg | exact Int32.not_le.mp hg | exact Int32.not_lt.mpr hg | exact Int32.not_le.mpr hg) ?_
          refine x_opp rfl rfl ?_
          refine a_ifF rfl rfl br_lt (by first | exact hv0 | exact nt_f hv0 | exact tnf hv0 | exact fnt hv0 | exact Int32.not_lt.mp hv0 | exact Int32.not_le.mp hv0 | exact Int32.not_lt.mpr hv0 | exact Int32.not_le.mpr hv0) ?_
          refine x_opp rfl rfl ?_
          refine x_kcg rfl ?_
          refine a_icT rfl rfl br_le (by first | exact hv1 | exact nt_f hv1 | exact tnf hv1 | exact fnt hv1 | exact Int32.not_lt.mp hv1 | exact Int32.not_le.mp hv1 | exact Int32.not_lt.mpr hv1 | exact Int32.not_le.mpr hv1) ?_
          refine x_opp rfl rfl ?_
          refine m_getg (s_0 dy) rfl rfl rfl ?_
          refine x_opp rfl rfl ?_
          refine a_gr hG4 rfl rfl hgr ?_
          iterate 4 (refine x_opp rfl rfl ?_)
          refine a_callV sg rfl rfl rfl rfl (c_sq hG4 g1 ?_)
          rw [e1]
          refine x_opp rfl rfl ?_
          refine x_opp rfl rfl ?_
          refine a_ifT rfl rfl br_eq (by decide) ?_
          iterate 3 (refine x_opp rfl rfl ?_)
          refine a_callV sg rfl rfl rfl rfl (c_sign hG4 i1 i2 ?_)
          rw [u2]
          refine x_opp rfl rfl ?_
          refine x_opp rfl rfl ?_
          refine x_kcg rfl ?_
          refine a_icT rfl rfl br_ne (by first | exact q | exact nt_f q | exact tnf q | exact fnt q | exact Int32.not_lt.mp q | exact Int32.not_le.mp q | exact Int32.not_lt.mpr q | exact Int32.not_le.mpr q) ?_
          iterate 4 (refine x_opp rfl rfl ?_)
          refine a_callV sg rfl rfl rfl rfl (c_pSign hG4 i1 i2 ?_)
          refine x_opp rfl rfl ?_
          refine x_kcg rfl ?_
          refine a_putJ 11 (s_0 dy) rfl rfl rfl rfl ?_
          refine x_opp rfl rfl ?_
          refine a_iret rfl rfl rfl ?_
          obtain ⟨M3, hM3⟩ : ∃ M3, m_setI (m_setI M1 (46 + 5 * G) (i * 7 + j) (M1.1 (46 + 5 * G) (i * 7 + j) &&& (-32) ||| nI vv)) 0 11 0 = M3 := ⟨_, rfl⟩
          rw [hM3]
          refine ⟨_, dy, _, rfl, rfl, ?_⟩; refine e_intro rfl rfl ?_
          obtain ⟨M4, hM4⟩ : ∃ M4, m_setI M3 65 19 0 = M4 := ⟨_, rfl⟩
          have f4 : ∀ a i, 66 ≤ a → a ≤ 69 → M4.1 a i = M1.1 a i := fun a i x y => by rw [← hM4, ← hM3]; repeat (first | rw [mI_at, if_neg (by omega)])
          have e2 : gSR (M4.1 66 G) (M4.1 67 G) (mL M4 G) (nI i) (nI j) = 0 := by
            have := sr_fr (r := nI i) (c := nI j) (G := G) f4
            exact this.trans e
          have s4 : M4.1 70 = M1.1 70 := by rw [← hM4, ← hM3, mI_ne _ _ _ (by decide), mI_ne _ _ _ (by decide), mI_ne _ _ _ (by omega)]
          obtain ⟨-, -, -, -, -, -, -, -, -, mk, -⟩ := rG_v g1 hG4
          have mk4 := mgOK_fr f4 mk
          refine x_opp rfl rfl ?_
          refine x_kcg rfl ?_
          refine a_putJ 19 (s_65 dy) rfl rfl rfl rfl ?_
          refine x_opp rfl rfl ?_
          refine a_callS rfl rfl rfl rfl (k_isGrid ?_)
          rw [hM4]
          refine a_ifF rfl rfl br_eqz (by first | exact hg | exact nt_f hg | exact tnf hg | exact fnt hg | exact Int32.not_lt.mp hg | exact Int32.not_le.mp hg | exact Int32.not_lt.mpr hg | exact Int32.not_le.mpr hg) ?_
          refine x_opp rfl rfl ?_
          refine x_kcg rfl ?_
          refine x_kcg rfl ?_
          refine a_callS rfl rfl rfl rfl (k_in ?_)
          refine a_ifT rfl rfl br_nez (by first | exact hv | exact nt_f hv | exact tnf hv | exact fnt hv | exact Int32.not_lt.mp hv | exact Int32.not_le.mp hv | exact Int32.not_lt.mpr hv | exact Int32.not_le.mpr hv) ?_
          iterate 4 (refine x_opp rfl rfl ?_)
          refine a_callV (s_65 dy) rfl rfl rfl rfl (k_wrong hG4 mk4 ?_)
          rw [e2]
          refine x_opp rfl rfl ?_
          refine x_opp rfl rfl ?_
          refine a_ifT rfl rfl br_le (by decide) ?_
          refine x_opp rfl rfl ?_
          refine m_getg (s_65 dy) rfl rfl rfl ?_
          iterate 3 (refine x_opp rfl rfl ?_)
          refine a_callS rfl rfl rfl rfl (k_sq ?_)
          refine a_ialdN (s_70 dy) (k := 49 * G + (i * 7 + j)) rfl rfl rfl (by omega) (by decide) ?_
          refine x_opp rfl rfl ?_
          refine x_opp rfl rfl ?_
          refine x_kcg rfl ?_
          rw [s4]
          refine a_icT rfl rfl br_ne (by first | exact q | exact nt_f q | exact tnf q | exact fnt q | exact Int32.not_lt.mp q | exact Int32.not_le.mp q | exact Int32.not_lt.mpr q | exact Int32.not_le.mpr q) ?_
          refine x_opp rfl rfl ?_
          refine m_getg (s_65 dy) rfl rfl rfl ?_
          iterate 3 (refine x_opp rfl rfl ?_)
          refine a_callS rfl rfl rfl rfl (k_sq ?_)
          refine x_opp rfl rfl ?_
          refine a_iastN (s_70 dy) (k := 49 * G + (i * 7 + j)) rfl rfl rfl (by omega) (by decide) ?_
          refine x_opp rfl rfl ?_
          refine a_callV (s_65 dy) rfl rfl rfl rfl (k_changed ?_)
          refine x_opp rfl rfl ?_
          refine a_iret rfl rfl rfl ?_
          refine ⟨rfl, _, rfl, ?_⟩
          subst hM4
          subst hM3
          subst hM1
          exact R_sign hN hL hQ hG hG4 (show vv < 32 by omega) i3 i4 i1 i2 (by rw [mI_ne _ _ _ (by omega)]) rfl
      · have e1 : sr M1 G r c = nI k := e
        have e2 : sr (m_setI (nFind M1 1 3 (nI k)) 65 19 0) G r c = nI k := by rw [sr_f]; exact e
        have g3 : rG (m_setI (nFind M1 1 3 (nI k)) 65 19 0) n := rG_z (rG_f g1)
        obtain ⟨hk0, hk1, hk6⟩ := k12 hk
        refine x_opp rfl rfl ?_
        refine m_getg (s_0 dy) rfl rfl rfl ?_
        refine a_callV (s_1 dy) rfl rfl rfl rfl (c_clear (s_1 dy) ?_)
        refine x_opp rfl rfl ?_
        refine a_callS rfl rfl rfl rfl (c_isGridNumber ?_)
        rw [hM1]
        refine a_ifF rfl rfl br_eqz (by first | exact hg | exact nt_f hg | exact tnf hg | exact fnt hg | exact Int32.not_lt.mp hg | exact Int32.not_le.mp hg | exact Int32.not_lt.mpr hg | exact Int32.not_le.mpr hg) ?_
        refine x_opp rfl rfl ?_
        refine a_ifF rfl rfl br_lt (by first | exact hv0 | exact nt_f hv0 | exact tnf hv0 | exact fnt hv0 | exact Int32.not_lt.mp hv0 | exact Int32.not_le.mp hv0 | exact Int32.not_lt.mpr hv0 | exact Int32.not_le.mpr hv0) ?_
        refine x_opp rfl rfl ?_
        refine x_kcg rfl ?_
        refine a_icT rfl rfl br_le (by first | exact hv1 | exact nt_f hv1 | exact tnf hv1 | exact fnt hv1 | exact Int32.not_lt.mp hv1 | exact Int32.not_le.mp hv1 | exact Int32.not_lt.mpr hv1 | exact Int32.not_le.mpr hv1) ?_
        refine x_opp rfl rfl ?_
        refine m_getg (s_0 dy) rfl rfl rfl ?_
        refine x_opp rfl rfl ?_
        refine a_gr hG4 rfl rfl hgr ?_
        iterate 4 (refine x_opp rfl rfl ?_)
        refine a_callV sg rfl rfl rfl rfl (c_sq hG4 g1 ?_)
        rw [e1]
        refine x_opp rfl rfl ?_
        refine x_opp rfl rfl ?_
        refine a_ifF rfl rfl br_eq (by first | exact hk0 | exact nt_f hk0 | exact tnf hk0 | exact fnt hk0 | exact Int32.not_lt.mp hk0 | exact Int32.not_le.mp hk0 | exact Int32.not_lt.mpr hk0 | exact Int32.not_le.mpr hk0) ?_
        refine x_opp rfl rfl ?_
        refine m_getg (s_0 dy) rfl rfl rfl ?_
        refine x_opp rfl rfl ?_
        refine a_callV (s_1 dy) rfl rfl rfl rfl (c_find (s_1 dy) (s_3 dy) (by decide) (vp_in_nI hk6 (by decide)) ?_)
        refine a_iret rfl rfl rfl ?_
        refine ⟨_, dy, _, rfl, rfl, ?_⟩; refine e_intro rfl rfl ?_
        refine x_opp rfl rfl ?_
        refine x_kcg rfl ?_
        refine a_putJ 19 (s_65 dy) rfl rfl rfl rfl ?_
        refine x_opp rfl rfl ?_
        refine a_callS rfl rfl rfl rfl (k_isGrid ?_)
        refine a_ifF rfl rfl br_eqz (by first | exact hg | exact nt_f hg | exact tnf hg | exact fnt hg | exact Int32.not_lt.mp hg | exact Int32.not_le.mp hg | exact Int32.not_lt.mpr hg | exact Int32.not_le.mpr hg) ?_
        refine x_opp rfl rfl ?_
        refine x_kcg rfl ?_
        refine x_kcg rfl ?_
        refine a_callS rfl rfl rfl rfl (k_in ?_)
        refine a_ifT rfl rfl br_nez (by first | exact hv | exact nt_f hv | exact tnf hv | exact fnt hv | exact Int32.not_lt.mp hv | exact Int32.not_le.mp hv | exact Int32.not_lt.mpr hv | exact Int32.not_le.mpr hv) ?_
        iterate 4 (refine x_opp rfl rfl ?_)
        refine a_callV (s_65 dy) rfl rfl rfl rfl (k_wr hG4 g3 ?_)
        rw [e2]
        refine x_opp rfl rfl ?_
        refine x_opp rfl rfl ?_
        refine a_ifF rfl rfl br_le (by first | exact hk1 | exact nt_f hk1 | exact tnf hk1 | exact fnt hk1 | exact Int32.not_lt.mp hk1 | exact Int32.not_le.mp hk1 | exact Int32.not_lt.mpr hk1 | exact Int32.not_le.mpr hk1) ?_
        refine x_opp rfl rfl ?_
        refine x_opp rfl rfl ?_
        refine a_callV (s_65 dy) rfl rfl rfl rfl (k_met (vp_in_nI hk6 (by decide)) ?_)
        refine a_iret rfl rfl rfl ?_
        subst hM1
        exact ⟨rfl, _, rfl, R_fd hk6 hR⟩
    · by_cases v0 : v < 0
      · refine x_opp rfl rfl ?_
        refine m_getg (s_0 dy) rfl rfl rfl ?_
        refine a_callV (s_1 dy) rfl rfl rfl rfl (c_clear (s_1 dy) ?_)
        refine x_opp rfl rfl ?_
        refine a_callS rfl rfl rfl rfl (c_isGridNumber ?_)
        rw [hM1]
        refine a_ifF rfl rfl br_eqz (by first | exact hg | exact nt_f hg | exact tnf hg | exact fnt hg | exact Int32.not_lt.mp hg | exact Int32.not_le.mp hg | exact Int32.not_lt.mpr hg | exact Int32.not_le.mpr hg) ?_
        refine x_opp rfl rfl ?_
        refine a_ifT rfl rfl br_lt (by first | exact v0 | exact nt_f v0 | exact tnf v0 | exact fnt v0 | exact Int32.not_lt.mp v0 | exact Int32.not_le.mp v0 | exact Int32.not_lt.mpr v0 | exact Int32.not_le.mpr v0) ?_
        refine x_kcg rfl ?_
        refine a_iret rfl rfl rfl ?_
        refine ⟨_, dy, _, rfl, rfl, ?_⟩; refine e_intro rfl rfl ?_
        refine x_opp rfl rfl ?_
        refine x_kcg rfl ?_
        refine a_putJ 19 (s_65 dy) rfl rfl rfl rfl ?_
        refine x_opp rfl rfl ?_
        refine a_callS rfl rfl rfl rfl (k_isGrid ?_)
        rw [hM2]
        refine a_ifF rfl rfl br_eqz (by first | exact hg | exact nt_f hg | exact tnf hg | exact fnt hg | exact Int32.not_lt.mp hg | exact Int32.not_le.mp hg | exact Int32.not_lt.mpr hg | exact Int32.not_le.mpr hg) ?_
        refine x_opp rfl rfl ?_
        refine x_kcg rfl ?_
        refine x_kcg rfl ?_
        refine a_callS rfl rfl rfl rfl (k_in ?_)
        refine a_ifF rfl rfl br_nez (by first | exact hv | exact nt_f hv | exact tnf hv | exact fnt hv | exact Int32.not_lt.mp hv | exact Int32.not_le.mp hv | exact Int32.not_lt.mpr hv | exact Int32.not_le.mpr hv) ?_
        refine x_kcg rfl ?_
        refine a_iret rfl rfl rfl ?_
        subst hM2; subst hM1; exact ⟨rfl, _, rfl, R_cl hR⟩
      · have v1 : ¬ v ≤ 26 := fun q => hv (by unfold inR; rw [if_neg v0, if_neg (Int32.not_lt.mpr q)])
        refine x_opp rfl rfl ?_
        refine m_getg (s_0 dy) rfl rfl rfl ?_
        refine a_callV (s_1 dy) rfl rfl rfl rfl (c_clear (s_1 dy) ?_)
        refine x_opp rfl rfl ?_
        refine a_callS rfl rfl rfl rfl (c_isGridNumber ?_)
        rw [hM1]
        refine a_ifF rfl rfl br_eqz (by first | exact hg | exact nt_f hg | exact tnf hg | exact fnt hg | exact Int32.not_lt.mp hg | exact Int32.not_le.mp hg | exact Int32.not_lt.mpr hg | exact Int32.not_le.mpr hg) ?_
        refine x_opp rfl rfl ?_
        refine a_ifF rfl rfl br_lt (by first | exact v0 | exact nt_f v0 | exact tnf v0 | exact fnt v0 | exact Int32.not_lt.mp v0 | exact Int32.not_le.mp v0 | exact Int32.not_lt.mpr v0 | exact Int32.not_le.mpr v0) ?_
        refine x_opp rfl rfl ?_
        refine x_kcg rfl ?_
        refine a_icF rfl rfl br_le (by first | exact v1 | exact nt_f v1 | exact tnf v1 | exact fnt v1 | exact Int32.not_lt.mp v1 | exact Int32.not_le.mp v1 | exact Int32.not_lt.mpr v1 | exact Int32.not_le.mpr v1) ?_
        refine x_kcg rfl ?_
        refine a_iret rfl rfl rfl ?_
        refine ⟨_, dy, _, rfl, rfl, ?_⟩; refine e_intro rfl rfl ?_
        refine x_opp rfl rfl ?_
        refine x_kcg rfl ?_
        refine a_putJ 19 (s_65 dy) rfl rfl rfl rfl ?_
        refine x_opp rfl rfl ?_
        refine a_callS rfl rfl rfl rfl (k_isGrid ?_)
        rw [hM2]
        refine a_ifF rfl rfl br_eqz (by first | exact hg | exact nt_f hg | exact tnf hg | exact fnt hg | exact Int32.not_lt.mp hg | exact Int32.not_le.mp hg | exact Int32.not_lt.mpr hg | exact Int32.not_le.mpr hg) ?_
        refine x_opp rfl rfl ?_
        refine x_kcg rfl ?_
        refine x_kcg rfl ?_
        refine a_callS rfl rfl rfl rfl (k_in ?_)
        refine a_ifF rfl rfl br_nez (by first | exact hv | exact nt_f hv | exact tnf hv | exact fnt hv | exact Int32.not_lt.mp hv | exact Int32.not_le.mp hv | exact Int32.not_lt.mpr hv | exact Int32.not_le.mpr hv) ?_
        refine x_kcg rfl ?_
        refine a_iret rfl rfl rfl ?_
        subst hM2; subst hM1; exact ⟨rfl, _, rfl, R_cl hR⟩
  · refine x_opp rfl rfl ?_
    refine m_getg (s_0 dy) rfl rfl rfl ?_
    refine a_callV (s_1 dy) rfl rfl rfl rfl (c_clear (s_1 dy) ?_)
    refine x_opp rfl rfl ?_
    refine a_callS rfl rfl rfl rfl (c_isGridNumber ?_)
    rw [hM1]
    refine a_ifT rfl rfl br_eqz (by first | exact hg | exact nt_f hg | exact tnf hg | exact fnt hg | exact Int32.not_lt.mp hg | exact Int32.not_le.mp hg | exact Int32.not_lt.mpr hg | exact Int32.not_le.mpr hg) ?_
    refine x_kcg rfl ?_
    refine a_iret rfl rfl rfl ?_
    refine ⟨_, dy, _, rfl, rfl, ?_⟩; refine e_intro rfl rfl ?_
    refine x_opp rfl rfl ?_
    refine x_kcg rfl ?_
    refine a_putJ 19 (s_65 dy) rfl rfl rfl rfl ?_
    refine x_opp rfl rfl ?_
    refine a_callS rfl rfl rfl rfl (k_isGrid ?_)
    rw [hM2]
    refine a_ifT rfl rfl br_eqz (by first | exact hg | exact nt_f hg | exact tnf hg | exact fnt hg | exact Int32.not_lt.mp hg | exact Int32.not_le.mp hg | exact Int32.not_lt.mpr hg | exact Int32.not_le.mpr hg) ?_
    refine x_kcg rfl ?_
    refine a_iret rfl rfl rfl ?_
    subst hM2; subst hM1; exact ⟨rfl, _, rfl, R_cl hR⟩
end PD
