/-! pairs: a bar -/
section PF
variable {L : Nat} {xs : Nat → Int32} {t d : Nat} {dy : List sh_T} {M : mm_T} {Q : Option Value → sm_W → Prop} {n G : Nat}
/-- a bar of a visible square, on both sides -/
theorem R_bar71 {M' : mm_T} {s : Nat × (Nat → Int32)} {E : Nat → lT} {P w : Nat → Nat} {i j : Nat} {o : Bool} (hN : rN M t s) (hL : rL dy M E P w n) (hQ : rQ M) (hg : rG M n) (hG : G < 4) (hi : ∀ H, H ≤ 7 → M.1 67 G = nI H → i < H) (hj : j < (mL M G i).toNatClampNeg) (i7 : i < 7) (j7 : j < 7) (hw : ¬ nI j = M.1 68 G - 1)
    {c0 : Int32} (hc0 : c0 = M.1 (46 + 5 * G) (i * 7 + j)) (e : M' = m_setI (m_setI (m_setI (m_setI (m_setI (m_setI M 1 5 0) 0 11 0) (46 + 5 * G) (i * 7 + j) (if o = true then c0 ||| 32 else c0 &&& (32 ^^^ (-1)))) 65 19 0) 71 (49 * G + (i * 7 + j)) (zz o)) 65 38 0) : rR (t + 1) dy M' := by
  obtain ⟨u1, -⟩ := rG_vis hg hG hi hj i7 j7
  obtain ⟨⟨m, hm, e70⟩, m1, m2⟩ := hg.1 (49 * G + (i * 7 + j)) (by omega)
  have e70' : M'.1 70 = M.1 70 := by rw [e]; (repeat (rw [mI_ne _ _ _ (by omega)]))
  have eo : M'.1 72 = M.1 72 := by rw [e]; (repeat (rw [mI_ne _ _ _ (by omega)]))
  have nb : M'.1 71 (49 * G + (i * 7 + j)) = zz o := by subst e; (repeat (first | rw [mI_at, if_neg (by omega)] | rw [mI_at, if_pos ⟨rfl, rfl⟩] | rw [mA_at, if_neg (by omega)] | rw [mA_at, if_pos rfl] | rw [mL_1] | rw [mR_1]))
  have nc : M'.1 (46 + 5 * G) (i * 7 + j) = (if o = true then M.1 (46 + 5 * G) (i * 7 + j) ||| 32 else M.1 (46 + 5 * G) (i * 7 + j) &&& (32 ^^^ (-1))) := by subst e; rw [← hc0]; (repeat (first | rw [mI_at, if_neg (by omega)] | rw [mI_at, if_pos ⟨rfl, rfl⟩] | rw [mA_at, if_neg (by omega)] | rw [mA_at, if_pos rfl] | rw [mL_1] | rw [mR_1]))
  refine R_g hN hL hQ (rG_sq (i0 := i) (j0 := j) hg hG i7 j7 (fun a i h x y => by subst e; repeat (first | rw [mI_at, if_neg (by omega)])) (by rw [e]; rfl) ?_ ⟨⟨m, hm, by rw [e70']; exact e70⟩, ?_, ?_⟩ (Or.inr (fun q => hw (by rw [q]; exact (nI_pred j).symm)))) (by subst e; exact (fun a i h => by repeat (first | rw [mI_at, if_neg (by omega)] | rw [mA_at, if_neg (by omega)] | rw [mL_1] | rw [mR_1]))) (by rw [e]; rfl) (by rw [e]; rfl) (by subst e; (repeat (first | rw [mI_at, if_neg (by omega)] | rw [mI_at, if_pos ⟨rfl, rfl⟩] | rw [mA_at, if_neg (by omega)] | rw [mA_at, if_pos rfl] | rw [mL_1] | rw [mR_1]))) (by subst e; (repeat (first | rw [mI_at, if_neg (by omega)] | rw [mI_at, if_pos ⟨rfl, rfl⟩] | rw [mA_at, if_neg (by omega)] | rw [mA_at, if_pos rfl] | rw [mL_1] | rw [mR_1]))) (by subst e; (repeat (first | rw [mI_at, if_neg (by omega)] | rw [mI_at, if_pos ⟨rfl, rfl⟩] | rw [mA_at, if_neg (by omega)] | rw [mA_at, if_pos rfl] | rw [mL_1] | rw [mR_1])))
  · unfold mC tld
    rw [nc, nb, e70', eo, u1]
    unfold mC tld
    rw [e70]
    exact (bar_new hm _ _ o).1
  · rw [nb]; exact zz_01 o
  · rw [eo]; exact m2
set_option maxRecDepth 4000 in
theorem p_bar71 {r c : Int32} {o : Bool} (h : rR t dy M) (hG4 : G < 4) (e : sr (m_setI M 1 5 0) G r c = 0) : pr L xs t dy M 23 159 [.int (nI G), .int r, .int c, .int (zz false), .int (zz o)] := by
  have hR := h; obtain ⟨s, E, P, w, n, hG, hN, hL, hS, hQ⟩ := h; have z0 : (0 : Int32) = 0 := rfl; have z1 : (0 : Int32) ≤ 0 := (by decide); have z11 : ¬ (1 : Int32) = 0 := (by decide); have z12 : ¬ (1 : Int32) ≤ 0 := (by decide); obtain ⟨M1, hM1⟩ : ∃ M1, m_setI M 1 5 0 = M1 := ⟨_, rfl⟩; have g1 : rG M1 n := hM1 ▸ rG_c hG; obtain ⟨M2, hM2⟩ : ∃ M2, m_setI M1 65 19 0 = M2 := ⟨_, rfl⟩; have g2 : rG M2 n := hM2 ▸ rG_z g1
  unfold pr; refine e_intro rfl rfl ?_
  have hg : gRow 4 (nI G) = true := by rcases (show G = 0 ∨ G = 1 ∨ G = 2 ∨ G = 3 by omega) with rfl | rfl | rfl | rfl <;> rfl
  rw [hM1] at e
  have hgr := g1.2.1 G hG4; obtain ⟨sg, sc, sl, ssp, sre, sne⟩ := gsh_at dy G hG4
  obtain ⟨i, j, rfl, rfl, i1, i2, i3, i4, i5⟩ := sr_0 g1 hG4 e
  have e1 : sr M1 G (nI i) (nI j) = 0 := e
  obtain ⟨u1, u2, u3, u4⟩ := rG_vis g1 hG4 i3 i4 i1 i2
  obtain ⟨H, W, b1, b2, b3, b4, b5, b6, gk, mk, v1, v2, a1, a2⟩ := rG_v g1 hG4
  have e67 : M1.1 (45 + 5 * G) 6 = M1.1 68 G := by rw [b5, b6]
  have wr : ∀ M4, (∀ a i, 66 ≤ a → a ≤ 69 → M4.1 a i = M1.1 a i) → gSR (M4.1 66 G) (M4.1 67 G) (mL M4 G) (nI i) (nI j) = 0 ∧ mgOK M4 G := fun M4 f4 => ⟨(sr_fr (r := nI i) (c := nI j) (G := G) f4).trans e, mgOK_fr f4 mk⟩
  by_cases hl : nI j = M1.1 68 G - 1
  · have qn : ¬ nI j ≠ M1.1 68 G - 1 := fun h => h hl
    have e2 : sr M2 G (nI i) (nI j) = 0 := by subst hM2; exact e
    have q2 : M2.1 68 G = M1.1 68 G := by subst hM2; rfl
    refine x_opp rfl rfl ?_
    refine m_getg (s_0 dy) rfl rfl rfl ?_
    refine a_callV (s_1 dy) rfl rfl rfl rfl (c_clear (s_1 dy) ?_)
    refine x_opp rfl rfl ?_
    refine a_callS rfl rfl rfl rfl (c_isGridNumber ?_)
    rw [hM1]
    refine a_ifT rfl rfl br_nez (by first | exact hg | exact nt_f hg | exact tnf hg | exact fnt hg | exact Int32.not_lt.mp hg | exact Int32.not_le.mp hg | exact Int32.not_lt.mpr hg | exact Int32.not_le.mpr hg) ?_
    refine x_opp rfl rfl ?_
    refine m_getg (s_0 dy) rfl rfl rfl ?_
    refine x_opp rfl rfl ?_
    refine a_gr hG4 rfl rfl hgr ?_
    iterate 4 (refine x_opp rfl rfl ?_)
    refine a_callV sg rfl rfl rfl rfl (c_sq hG4 g1 ?_)
    rw [e1]
    refine x_opp rfl rfl ?_
    refine x_opp rfl rfl ?_
    refine a_ifT rfl rfl br_eq (by decide) ?_
    refine x_opp rfl rfl ?_
    refine a_ifT rfl rfl br_eqz (by first | exact rfl | exact nt_f rfl | exact tnf rfl | exact fnt rfl | exact Int32.not_lt.mp rfl | exact Int32.not_le.mp rfl | exact Int32.not_lt.mpr rfl | exact Int32.not_le.mpr rfl) ?_
    refine x_opp rfl rfl ?_
    refine x_opp rfl rfl ?_
    refine m_getg sg rfl rfl rfl ?_
    refine x_kcg rfl ?_
    refine x_opp rfl rfl ?_
    rw [e67]
    refine a_icF rfl rfl br_ne (by first | exact qn | exact nt_f qn | exact tnf qn | exact fnt qn | exact Int32.not_lt.mp qn | exact Int32.not_le.mp qn | exact Int32.not_lt.mpr qn | exact Int32.not_le.mpr qn) ?_
    refine x_kcg rfl ?_
    refine a_iret rfl rfl rfl ?_
    refine ⟨_, dy, _, rfl, rfl, ?_⟩; refine e_intro rfl rfl ?_
    refine x_opp rfl rfl ?_
    refine x_kcg rfl ?_
    refine a_putJ 19 (s_65 dy) rfl rfl rfl rfl ?_
    refine x_opp rfl rfl ?_
    refine a_callS rfl rfl rfl rfl (k_isGrid ?_)
    rw [hM2]
    refine a_ifT rfl rfl br_nez (by first | exact hg | exact nt_f hg | exact tnf hg | exact fnt hg | exact Int32.not_lt.mp hg | exact Int32.not_le.mp hg | exact Int32.not_lt.mpr hg | exact Int32.not_le.mpr hg) ?_
    iterate 4 (refine x_opp rfl rfl ?_)
    refine a_callV (s_65 dy) rfl rfl rfl rfl (k_wr hG4 g2 ?_)
    rw [e2]
    refine x_opp rfl rfl ?_
    refine x_opp rfl rfl ?_
    refine a_ifT rfl rfl br_le (by decide) ?_
    refine x_opp rfl rfl ?_
    refine a_ifT rfl rfl br_eqz (by first | exact rfl | exact nt_f rfl | exact tnf rfl | exact fnt rfl | exact Int32.not_lt.mp rfl | exact Int32.not_le.mp rfl | exact Int32.not_lt.mpr rfl | exact Int32.not_le.mpr rfl) ?_
    refine x_opp rfl rfl ?_
    refine x_opp rfl rfl ?_
    refine m_getg (s_65 dy) rfl rfl rfl ?_
    refine x_opp rfl rfl ?_
    refine a_ialdN (s_68 dy) (k := G) rfl rfl rfl (by omega) (by decide) ?_
    refine x_kcg rfl ?_
    refine x_opp rfl rfl ?_
    rw [q2]
    refine a_icF rfl rfl br_ne (by first | exact qn | exact nt_f qn | exact tnf qn | exact fnt qn | exact Int32.not_lt.mp qn | exact Int32.not_le.mp qn | exact Int32.not_lt.mpr qn | exact Int32.not_le.mpr qn) ?_
    refine x_kcg rfl ?_
    refine a_iret rfl rfl rfl ?_
    subst hM2; subst hM1; exact ⟨rfl, _, rfl, R_cl hR⟩
  · obtain ⟨-, m1, m2⟩ := g1.1 (49 * G + (i * 7 + j)) (by omega)
    rcases m1 with x | x
    · have hw : (if M1.1 (46 + 5 * G) (i * 7 + j) &&& 32 = 0 then (0 : Int32) else 1) = 0 := by rw [u3, x]; decide
      refine x_opp rfl rfl ?_
      refine m_getg (s_0 dy) rfl rfl rfl ?_
      refine a_callV (s_1 dy) rfl rfl rfl rfl (c_clear (s_1 dy) ?_)
      refine x_opp rfl rfl ?_
      refine a_callS rfl rfl rfl rfl (c_isGridNumber ?_)
      rw [hM1]
      refine a_ifT rfl rfl br_nez (by first | exact hg | exact nt_f hg | exact tnf hg | exact fnt hg | exact Int32.not_lt.mp hg | exact Int32.not_le.mp hg | exact Int32.not_lt.mpr hg | exact Int32.not_le.mpr hg) ?_
      refine x_opp rfl rfl ?_
      refine m_getg (s_0 dy) rfl rfl rfl ?_
      refine x_opp rfl rfl ?_
      refine a_gr hG4 rfl rfl hgr ?_
      iterate 4 (refine x_opp rfl rfl ?_)
      refine a_callV sg rfl rfl rfl rfl (c_sq hG4 g1 ?_)
      rw [e1]
      refine x_opp rfl rfl ?_
      refine x_opp rfl rfl ?_
      refine a_ifT rfl rfl br_eq (by decide) ?_
      refine x_opp rfl rfl ?_
      refine a_ifT rfl rfl br_eqz (by first | exact rfl | exact nt_f rfl | exact tnf rfl | exact fnt rfl | exact Int32.not_lt.mp rfl | exact Int32.not_le.mp rfl | exact Int32.not_lt.mpr rfl | exact Int32.not_le.mpr rfl) ?_
      refine x_opp rfl rfl ?_
      refine x_opp rfl rfl ?_
      refine m_getg sg rfl rfl rfl ?_
      refine x_kcg rfl ?_
      refine x_opp rfl rfl ?_
      rw [e67]
      refine a_icT rfl rfl br_ne (by first | exact hl | exact nt_f hl | exact tnf hl | exact fnt hl | exact Int32.not_lt.mp hl | exact Int32.not_le.mp hl | exact Int32.not_lt.mpr hl | exact Int32.not_le.mpr hl) ?_
      refine x_opp rfl rfl ?_
      refine x_kcg rfl ?_
      refine a_putJ 11 (s_0 dy) rfl rfl rfl rfl ?_
      iterate 4 (refine x_opp rfl rfl ?_)
      refine a_ifT rfl rfl br_eqz (by first | exact rfl | exact nt_f rfl | exact tnf rfl | exact fnt rfl | exact Int32.not_lt.mp rfl | exact Int32.not_le.mp rfl | exact Int32.not_lt.mpr rfl | exact Int32.not_le.mpr rfl) ?_
      refine x_kcg rfl ?_
      refine x_go rfl ?_
      refine x_opp rfl rfl ?_
      refine a_callV sg rfl rfl rfl rfl (c_pBar hG4 i1 i2 ?_)
      rw [show (m_setI M1 0 11 0).1 (46 + 5 * G) (i * 7 + j) = M1.1 (46 + 5 * G) (i * 7 + j) from by rw [mI_ne _ _ _ (by omega)], hw]
      refine a_ifT rfl rfl br_eq (by decide) ?_
      refine x_kcg rfl ?_
      refine x_go rfl ?_
      refine a_iret rfl rfl rfl ?_
      obtain ⟨M3, hM3⟩ : ∃ M3, m_setI (m_setI M1 0 11 0) (46 + 5 * G) (i * 7 + j) (if o = true then M1.1 (46 + 5 * G) (i * 7 + j) ||| 32 else M1.1 (46 + 5 * G) (i * 7 + j) &&& (32 ^^^ (-1))) = M3 := ⟨_, rfl⟩
      rw [hM3]
      refine ⟨_, dy, _, rfl, rfl, ?_⟩; refine e_intro rfl rfl ?_
      obtain ⟨M4, hM4⟩ : ∃ M4, m_setI M3 65 19 0 = M4 := ⟨_, rfl⟩
      have f4 : ∀ a i, 66 ≤ a → a ≤ 69 → M4.1 a i = M1.1 a i := fun a i x y => by rw [← hM4, ← hM3]; repeat (first | rw [mI_at, if_neg (by omega)])
      obtain ⟨e2, mk4⟩ := wr M4 f4
      have q2 : M4.1 68 G = M1.1 68 G := f4 _ _ (by decide) (by decide)
      have s4 : M4.1 71 = M1.1 71 := by rw [← hM4, ← hM3, mI_ne _ _ _ (by decide), mI_ne _ _ _ (by omega), mI_ne _ _ _ (by decide)]
      refine x_opp rfl rfl ?_
      refine x_kcg rfl ?_
      refine a_putJ 19 (s_65 dy) rfl rfl rfl rfl ?_
      refine x_opp rfl rfl ?_
      refine a_callS rfl rfl rfl rfl (k_isGrid ?_)
      rw [hM4]
      refine a_ifT rfl rfl br_nez (by first | exact hg | exact nt_f hg | exact tnf hg | exact fnt hg | exact Int32.not_lt.mp hg | exact Int32.not_le.mp hg | exact Int32.not_lt.mpr hg | exact Int32.not_le.mpr hg) ?_
      iterate 4 (refine x_opp rfl rfl ?_)
      refine a_callV (s_65 dy) rfl rfl rfl rfl (k_wrong hG4 mk4 ?_)
      rw [e2]
      refine x_opp rfl rfl ?_
      refine x_opp rfl rfl ?_
      refine a_ifT rfl rfl br_le (by decide) ?_
      refine x_opp rfl rfl ?_
      refine a_ifT rfl rfl br_eqz (by first | exact rfl | exact nt_f rfl | exact tnf rfl | exact fnt rfl | exact Int32.not_lt.mp rfl | exact Int32.not_le.mp rfl | exact Int32.not_lt.mpr rfl | exact Int32.not_le.mpr rfl) ?_
      refine x_opp rfl rfl ?_
      refine x_opp rfl rfl ?_
      refine m_getg (s_65 dy) rfl rfl rfl ?_
      refine x_opp rfl rfl ?_
      refine a_ialdN (s_68 dy) (k := G) rfl rfl rfl (by omega) (by decide) ?_
      refine x_kcg rfl ?_
      refine x_opp rfl rfl ?_
      rw [q2]
      refine a_icT rfl rfl br_ne (by first | exact hl | exact nt_f hl | exact tnf hl | exact fnt hl | exact Int32.not_lt.mp hl | exact Int32.not_le.mp hl | exact Int32.not_lt.mpr hl | exact Int32.not_le.mpr hl) ?_
      iterate 3 (refine x_opp rfl rfl ?_)
      refine a_callS rfl rfl rfl rfl (k_sq ?_)
      refine x_opp rfl rfl ?_
      refine x_opp rfl rfl ?_
      refine a_ifT rfl rfl br_eqz (by first | exact rfl | exact nt_f rfl | exact tnf rfl | exact fnt rfl | exact Int32.not_lt.mp rfl | exact Int32.not_le.mp rfl | exact Int32.not_lt.mpr rfl | exact Int32.not_le.mpr rfl) ?_
      refine x_opp rfl rfl ?_
      refine m_getg (s_65 dy) rfl rfl rfl ?_
      refine x_opp rfl rfl ?_
      refine a_baldN (s_71 dy) (k := 49 * G + (i * 7 + j)) rfl rfl rfl (by omega) (by decide) ?_
      refine x_go rfl ?_
      refine x_opp rfl rfl ?_
      refine x_opp rfl rfl ?_
      rw [s4, x]
      refine a_ifT rfl rfl br_eqz (by first | exact rfl | exact nt_f rfl | exact tnf rfl | exact fnt rfl | exact Int32.not_lt.mp rfl | exact Int32.not_le.mp rfl | exact Int32.not_lt.mpr rfl | exact Int32.not_le.mpr rfl) ?_
      refine x_opp rfl rfl ?_
      refine m_getg (s_65 dy) rfl rfl rfl ?_
      refine x_opp rfl rfl ?_
      refine x_opp rfl rfl ?_
      refine a_bastN (s_71 dy) (k := 49 * G + (i * 7 + j)) rfl rfl rfl (by omega) (by decide) (by first | exact zz_01 _ | exact Or.inl rfl | exact Or.inr rfl) ?_
      refine x_go rfl ?_
      refine x_opp rfl rfl ?_
      refine a_callV (s_65 dy) rfl rfl rfl rfl (k_changed ?_)
      refine x_opp rfl rfl ?_
      refine a_ifT rfl rfl br_eq (by decide) ?_
      refine x_kcg rfl ?_
      refine x_go rfl ?_
      refine a_iret rfl rfl rfl ?_
      refine ⟨rfl, _, rfl, ?_⟩
      subst hM4
      subst hM3
      subst hM1
      exact R_bar71 hN hL hQ hG hG4 i3 i4 i1 i2 hl (by rw [mI_ne _ _ _ (by omega)]) rfl
    · have hw : (if M1.1 (46 + 5 * G) (i * 7 + j) &&& 32 = 0 then (0 : Int32) else 1) = 1 := by rw [u3, x]; decide
      refine x_opp rfl rfl ?_
      refine m_getg (s_0 dy) rfl rfl rfl ?_
      refine a_callV (s_1 dy) rfl rfl rfl rfl (c_clear (s_1 dy) ?_)
      refine x_opp rfl rfl ?_
      refine a_callS rfl rfl rfl rfl (c_isGridNumber ?_)
      rw [hM1]
      refine a_ifT rfl rfl br_nez (by first | exact hg | exact nt_f hg | exact tnf hg | exact fnt hg | exact Int32.not_lt.mp hg | exact Int32.not_le.mp hg | exact Int32.not_lt.mpr hg | exact Int32.not_le.mpr hg) ?_
      refine x_opp rfl rfl ?_
      refine m_getg (s_0 dy) rfl rfl rfl ?_
      refine x_opp rfl rfl ?_
      refine a_gr hG4 rfl rfl hgr ?_
      iterate 4 (refine x_opp rfl rfl ?_)
      refine a_callV sg rfl rfl rfl rfl (c_sq hG4 g1 ?_)
      rw [e1]
      refine x_opp rfl rfl ?_
      refine x_opp rfl rfl ?_
      refine a_ifT rfl rfl br_eq (by decide) ?_
      refine x_opp rfl rfl ?_
      refine a_ifT rfl rfl br_eqz (by first | exact rfl | exact nt_f rfl | exact tnf rfl | exact fnt rfl | exact Int32.not_lt.mp rfl | exact Int32.not_le.mp rfl | exact Int32.not_lt.mpr rfl | exact Int32.not_le.mpr rfl) ?_
      refine x_opp rfl rfl ?_
      refine x_opp rfl rfl ?_
      refine m_getg sg rfl rfl rfl ?_
      refine x_kcg rfl ?_
      refine x_opp rfl rfl ?_
      rw [e67]
      refine a_icT rfl rfl br_ne (by first | exact hl | exact nt_f hl | exact tnf hl | exact fnt hl | exact Int32.not_lt.mp hl | exact Int32.not_le.mp hl | exact Int32.not_lt.mpr hl | exact Int32.not_le.mpr hl) ?_
      refine x_opp rfl rfl ?_
      refine x_kcg rfl ?_
      refine a_putJ 11 (s_0 dy) rfl rfl rfl rfl ?_
      iterate 4 (refine x_opp rfl rfl ?_)
      refine a_ifT rfl rfl br_eqz (by first | exact rfl | exact nt_f rfl | exact tnf rfl | exact fnt rfl | exact Int32.not_lt.mp rfl | exact Int32.not_le.mp rfl | exact Int32.not_lt.mpr rfl | exact Int32.not_le.mpr rfl) ?_
      refine x_kcg rfl ?_
      refine x_go rfl ?_
      refine x_opp rfl rfl ?_
      refine a_callV sg rfl rfl rfl rfl (c_pBar hG4 i1 i2 ?_)
      rw [show (m_setI M1 0 11 0).1 (46 + 5 * G) (i * 7 + j) = M1.1 (46 + 5 * G) (i * 7 + j) from by rw [mI_ne _ _ _ (by omega)], hw]
      refine a_ifF rfl rfl br_eq (by decide) ?_
      refine x_kcg rfl ?_
      refine x_go rfl ?_
      refine a_iret rfl rfl rfl ?_
      obtain ⟨M3, hM3⟩ : ∃ M3, m_setI (m_setI M1 0 11 0) (46 + 5 * G) (i * 7 + j) (if o = true then M1.1 (46 + 5 * G) (i * 7 + j) ||| 32 else M1.1 (46 + 5 * G) (i * 7 + j) &&& (32 ^^^ (-1))) = M3 := ⟨_, rfl⟩
      rw [hM3]
      refine ⟨_, dy, _, rfl, rfl, ?_⟩; refine e_intro rfl rfl ?_
      obtain ⟨M4, hM4⟩ : ∃ M4, m_setI M3 65 19 0 = M4 := ⟨_, rfl⟩
      have f4 : ∀ a i, 66 ≤ a → a ≤ 69 → M4.1 a i = M1.1 a i := fun a i x y => by rw [← hM4, ← hM3]; repeat (first | rw [mI_at, if_neg (by omega)])
      obtain ⟨e2, mk4⟩ := wr M4 f4
      have q2 : M4.1 68 G = M1.1 68 G := f4 _ _ (by decide) (by decide)
      have s4 : M4.1 71 = M1.1 71 := by rw [← hM4, ← hM3, mI_ne _ _ _ (by decide), mI_ne _ _ _ (by omega), mI_ne _ _ _ (by decide)]
      refine x_opp rfl rfl ?_
      refine x_kcg rfl ?_
      refine a_putJ 19 (s_65 dy) rfl rfl rfl rfl ?_
      refine x_opp rfl rfl ?_
      refine a_callS rfl rfl rfl rfl (k_isGrid ?_)
      rw [hM4]
      refine a_ifT rfl rfl br_nez (by first | exact hg | exact nt_f hg | exact tnf hg | exact fnt hg | exact Int32.not_lt.mp hg | exact Int32.not_le.mp hg | exact Int32.not_lt.mpr hg | exact Int32.not_le.mpr hg) ?_
      iterate 4 (refine x_opp rfl rfl ?_)
      refine a_callV (s_65 dy) rfl rfl rfl rfl (k_wrong hG4 mk4 ?_)
      rw [e2]
      refine x_opp rfl rfl ?_
      refine x_opp rfl rfl ?_
      refine a_ifT rfl rfl br_le (by decide) ?_
      refine x_opp rfl rfl ?_
      refine a_ifT rfl rfl br_eqz (by first | exact rfl | exact nt_f rfl | exact tnf rfl | exact fnt rfl | exact Int32.not_lt.mp rfl | exact Int32.not_le.mp rfl | exact Int32.not_lt.mpr rfl | exact Int32.not_le.mpr rfl) ?_
      refine x_opp rfl rfl ?_
      refine x_opp rfl rfl ?_
      refine m_getg (s_65 dy) rfl rfl rfl ?_
      refine x_opp rfl rfl ?_
      refine a_ialdN (s_68 dy) (k := G) rfl rfl rfl (by omega) (by decide) ?_
      refine x_kcg rfl ?_
      refine x_opp rfl rfl ?_
      rw [q2]
      refine a_icT rfl rfl br_ne (by first | exact hl | exact nt_f hl | exact tnf hl | exact fnt hl | exact Int32.not_lt.mp hl | exact Int32.not_le.mp hl | exact Int32.not_lt.mpr hl | exact Int32.not_le.mpr hl) ?_
      iterate 3 (refine x_opp rfl rfl ?_)
      refine a_callS rfl rfl rfl rfl (k_sq ?_)
      refine x_opp rfl rfl ?_
      refine x_opp rfl rfl ?_
      refine a_ifT rfl rfl br_eqz (by first | exact rfl | exact nt_f rfl | exact tnf rfl | exact fnt rfl | exact Int32.not_lt.mp rfl | exact Int32.not_le.mp rfl | exact Int32.not_lt.mpr rfl | exact Int32.not_le.mpr rfl) ?_
      refine x_opp rfl rfl ?_
      refine m_getg (s_65 dy) rfl rfl rfl ?_
      refine x_opp rfl rfl ?_
      refine a_baldN (s_71 dy) (k := 49 * G + (i * 7 + j)) rfl rfl rfl (by omega) (by decide) ?_
      refine x_go rfl ?_
      refine x_opp rfl rfl ?_
      refine x_opp rfl rfl ?_
      rw [s4, x]
      refine a_ifT rfl rfl br_eqz (by first | exact rfl | exact nt_f rfl | exact tnf rfl | exact fnt rfl | exact Int32.not_lt.mp rfl | exact Int32.not_le.mp rfl | exact Int32.not_lt.mpr rfl | exact Int32.not_le.mpr rfl) ?_
      refine x_opp rfl rfl ?_
      refine m_getg (s_65 dy) rfl rfl rfl ?_
      refine x_opp rfl rfl ?_
      refine x_opp rfl rfl ?_
      refine a_bastN (s_71 dy) (k := 49 * G + (i * 7 + j)) rfl rfl rfl (by omega) (by decide) (by first | exact zz_01 _ | exact Or.inl rfl | exact Or.inr rfl) ?_
      refine x_go rfl ?_
      refine x_opp rfl rfl ?_
      refine a_callV (s_65 dy) rfl rfl rfl rfl (k_changed ?_)
      refine x_opp rfl rfl ?_
      refine a_ifF rfl rfl br_eq (by decide) ?_
      refine x_kcg rfl ?_
      refine x_go rfl ?_
      refine a_iret rfl rfl rfl ?_
      refine ⟨rfl, _, rfl, ?_⟩
      subst hM4
      subst hM3
      subst hM1
      exact R_bar71 hN hL hQ hG hG4 i3 i4 i1 i2 hl (by rw [mI_ne _ _ _ (by omega)]) rfl
/-- a bar of a visible square, on both sides -/
theorem R_bar72 {M' : mm_T} {s : Nat × (Nat → Int32)} {E : Nat → lT} {P w : Nat → Nat} {i j : Nat} {o : Bool} (hN : rN M t s) (hL : rL dy M E P w n) (hQ : rQ M) (hg : rG M n) (hG : G < 4) (hi : ∀ H, H ≤ 7 → M.1 67 G = nI H → i < H) (hj : j < (mL M G i).toNatClampNeg) (i7 : i < 7) (j7 : j < 7)
    {c0 : Int32} (hc0 : c0 = M.1 (46 + 5 * G) (i * 7 + j)) (e : M' = m_setI (m_setI (m_setI (m_setI (m_setI (m_setI M 1 5 0) 0 11 0) (46 + 5 * G) (i * 7 + j) (if o = true then c0 ||| 64 else c0 &&& (64 ^^^ (-1)))) 65 19 0) 72 (49 * G + (i * 7 + j)) (zz o)) 65 38 0) : rR (t + 1) dy M' := by
  obtain ⟨u1, -⟩ := rG_vis hg hG hi hj i7 j7
  obtain ⟨⟨m, hm, e70⟩, m1, m2⟩ := hg.1 (49 * G + (i * 7 + j)) (by omega)
  have e70' : M'.1 70 = M.1 70 := by rw [e]; (repeat (rw [mI_ne _ _ _ (by omega)]))
  have eo : M'.1 71 = M.1 71 := by rw [e]; (repeat (rw [mI_ne _ _ _ (by omega)]))
  have nb : M'.1 72 (49 * G + (i * 7 + j)) = zz o := by subst e; (repeat (first | rw [mI_at, if_neg (by omega)] | rw [mI_at, if_pos ⟨rfl, rfl⟩] | rw [mA_at, if_neg (by omega)] | rw [mA_at, if_pos rfl] | rw [mL_1] | rw [mR_1]))
  have nc : M'.1 (46 + 5 * G) (i * 7 + j) = (if o = true then M.1 (46 + 5 * G) (i * 7 + j) ||| 64 else M.1 (46 + 5 * G) (i * 7 + j) &&& (64 ^^^ (-1))) := by subst e; rw [← hc0]; (repeat (first | rw [mI_at, if_neg (by omega)] | rw [mI_at, if_pos ⟨rfl, rfl⟩] | rw [mA_at, if_neg (by omega)] | rw [mA_at, if_pos rfl] | rw [mL_1] | rw [mR_1]))
  refine R_g hN hL hQ (rG_sq (i0 := i) (j0 := j) hg hG i7 j7 (fun a i h x y => by subst e; repeat (first | rw [mI_at, if_neg (by omega)])) (by rw [e]; rfl) ?_ ⟨⟨m, hm, by rw [e70']; exact e70⟩, ?_, ?_⟩ (Or.inl (by rw [eo]))) (by subst e; exact (fun a i h => by repeat (first | rw [mI_at, if_neg (by omega)] | rw [mA_at, if_neg (by omega)] | rw [mL_1] | rw [mR_1]))) (by rw [e]; rfl) (by rw [e]; rfl) (by subst e; (repeat (first | rw [mI_at, if_neg (by omega)] | rw [mI_at, if_pos ⟨rfl, rfl⟩] | rw [mA_at, if_neg (by omega)] | rw [mA_at, if_pos rfl] | rw [mL_1] | rw [mR_1]))) (by subst e; (repeat (first | rw [mI_at, if_neg (by omega)] | rw [mI_at, if_pos ⟨rfl, rfl⟩] | rw [mA_at, if_neg (by omega)] | rw [mA_at, if_pos rfl] | rw [mL_1] | rw [mR_1]))) (by subst e; (repeat (first | rw [mI_at, if_neg (by omega)] | rw [mI_at, if_pos ⟨rfl, rfl⟩] | rw [mA_at, if_neg (by omega)] | rw [mA_at, if_pos rfl] | rw [mL_1] | rw [mR_1])))
  · unfold mC tld
    rw [nc, nb, e70', eo, u1]
    unfold mC tld
    rw [e70]
    exact (bar_new hm _ _ o).2
  · rw [eo]; exact m1
  · rw [nb]; exact zz_01 o
set_option maxRecDepth 4000 in
theorem p_bar72 {r c : Int32} {o : Bool} (h : rR t dy M) (hG4 : G < 4) (e : sr (m_setI M 1 5 0) G r c = 0) : pr L xs t dy M 23 159 [.int (nI G), .int r, .int c, .int (zz true), .int (zz o)] := by
  have hR := h; obtain ⟨s, E, P, w, n, hG, hN, hL, hS, hQ⟩ := h; have z0 : (0 : Int32) = 0 := rfl; have z1 : (0 : Int32) ≤ 0 := (by decide); have z11 : ¬ (1 : Int32) = 0 := (by decide); have z12 : ¬ (1 : Int32) ≤ 0 := (by decide); obtain ⟨M1, hM1⟩ : ∃ M1, m_setI M 1 5 0 = M1 := ⟨_, rfl⟩; have g1 : rG M1 n := hM1 ▸ rG_c hG; obtain ⟨M2, hM2⟩ : ∃ M2, m_setI M1 65 19 0 = M2 := ⟨_, rfl⟩; have g2 : rG M2 n := hM2 ▸ rG_z g1
  unfold pr; refine e_intro rfl rfl ?_
  have hg : gRow 4 (nI G) = true := by rcases (show G = 0 ∨ G = 1 ∨ G = 2 ∨ G = 3 by omega) with rfl | rfl | rfl | rfl <;> rfl
  rw [hM1] at e
  have hgr := g1.2.1 G hG4; obtain ⟨sg, sc, sl, ssp, sre, sne⟩ := gsh_at dy G hG4
  obtain ⟨i, j, rfl, rfl, i1, i2, i3, i4, i5⟩ := sr_0 g1 hG4 e
  have e1 : sr M1 G (nI i) (nI j) = 0 := e
  obtain ⟨u1, u2, u3, u4⟩ := rG_vis g1 hG4 i3 i4 i1 i2
  obtain ⟨H, W, b1, b2, b3, b4, b5, b6, gk, mk, v1, v2, a1, a2⟩ := rG_v g1 hG4
  have e67 : M1.1 (45 + 5 * G) 5 = M1.1 67 G := by rw [b3, b4]
  have wr : ∀ M4, (∀ a i, 66 ≤ a → a ≤ 69 → M4.1 a i = M1.1 a i) → gSR (M4.1 66 G) (M4.1 67 G) (mL M4 G) (nI i) (nI j) = 0 ∧ mgOK M4 G := fun M4 f4 => ⟨(sr_fr (r := nI i) (c := nI j) (G := G) f4).trans e, mgOK_fr f4 mk⟩
  by_cases hl : nI i = M1.1 67 G - 1
  · have qn : ¬ nI i ≠ M1.1 67 G - 1 := fun h => h hl
    have e2 : sr M2 G (nI i) (nI j) = 0 := by subst hM2; exact e
    have q2 : M2.1 67 G = M1.1 67 G := by subst hM2; rfl
    refine x_opp rfl rfl ?_
    refine m_getg (s_0 dy) rfl rfl rfl ?_
    refine a_callV (s_1 dy) rfl rfl rfl rfl (c_clear (s_1 dy) ?_)
    refine x_opp rfl rfl ?_
    refine a_callS rfl rfl rfl rfl (c_isGridNumber ?_)
    rw [hM1]
    refine a_ifT rfl rfl br_nez (by first | exact hg | exact nt_f hg | exact tnf hg | exact fnt hg | exact Int32.not_lt.mp hg | exact Int32.not_le.mp hg | exact Int32.not_lt.mpr hg | exact Int32.not_le.mpr hg) ?_
    refine x_opp rfl rfl ?_
    refine m_getg (s_0 dy) rfl rfl rfl ?_
    refine x_opp rfl rfl ?_
    refine a_gr hG4 rfl rfl hgr ?_
    iterate 4 (refine x_opp rfl rfl ?_)
    refine a_callV sg rfl rfl rfl rfl (c_sq hG4 g1 ?_)
    rw [e1]
    refine x_opp rfl rfl ?_
    refine x_opp rfl rfl ?_
    refine a_ifT rfl rfl br_eq (by decide) ?_
    refine x_opp rfl rfl ?_
    refine a_ifF rfl rfl br_eqz (tnf rfl) ?_
    refine x_opp rfl rfl ?_
    refine x_opp rfl rfl ?_
    refine m_getg sg rfl rfl rfl ?_
    refine x_kcg rfl ?_
    refine x_opp rfl rfl ?_
    rw [e67]
    refine a_icF rfl rfl br_ne (by first | exact qn | exact nt_f qn | exact tnf qn | exact fnt qn | exact Int32.not_lt.mp qn | exact Int32.not_le.mp qn | exact Int32.not_lt.mpr qn | exact Int32.not_le.mpr qn) ?_
    refine x_go rfl ?_
    refine x_kcg rfl ?_
    refine a_iret rfl rfl rfl ?_
    refine ⟨_, dy, _, rfl, rfl, ?_⟩; refine e_intro rfl rfl ?_
    refine x_opp rfl rfl ?_
    refine x_kcg rfl ?_
    refine a_putJ 19 (s_65 dy) rfl rfl rfl rfl ?_
    refine x_opp rfl rfl ?_
    refine a_callS rfl rfl rfl rfl (k_isGrid ?_)
    rw [hM2]
    refine a_ifT rfl rfl br_nez (by first | exact hg | exact nt_f hg | exact tnf hg | exact fnt hg | exact Int32.not_lt.mp hg | exact Int32.not_le.mp hg | exact Int32.not_lt.mpr hg | exact Int32.not_le.mpr hg) ?_
    iterate 4 (refine x_opp rfl rfl ?_)
    refine a_callV (s_65 dy) rfl rfl rfl rfl (k_wr hG4 g2 ?_)
    rw [e2]
    refine x_opp rfl rfl ?_
    refine x_opp rfl rfl ?_
    refine a_ifT rfl rfl br_le (by decide) ?_
    refine x_opp rfl rfl ?_
    refine a_ifF rfl rfl br_eqz (tnf rfl) ?_
    refine x_opp rfl rfl ?_
    refine x_opp rfl rfl ?_
    refine m_getg (s_65 dy) rfl rfl rfl ?_
    refine x_opp rfl rfl ?_
    refine a_ialdN (s_67 dy) (k := G) rfl rfl rfl (by omega) (by decide) ?_
    refine x_kcg rfl ?_
    refine x_opp rfl rfl ?_
    rw [q2]
    refine a_icF rfl rfl br_ne (by first | exact qn | exact nt_f qn | exact tnf qn | exact fnt qn | exact Int32.not_lt.mp qn | exact Int32.not_le.mp qn | exact Int32.not_lt.mpr qn | exact Int32.not_le.mpr qn) ?_
    refine x_go rfl ?_
    refine x_kcg rfl ?_
    refine a_iret rfl rfl rfl ?_
    subst hM2; subst hM1; exact ⟨rfl, _, rfl, R_cl hR⟩
  · obtain ⟨-, m1, m2⟩ := g1.1 (49 * G + (i * 7 + j)) (by omega)
    rcases m2 with x | x
    · have hw : (if M1.1 (46 + 5 * G) (i * 7 + j) &&& 64 = 0 then (0 : Int32) else 1) = 0 := by rw [u4, x]; decide
      refine x_opp rfl rfl ?_
      refine m_getg (s_0 dy) rfl rfl rfl ?_
      refine a_callV (s_1 dy) rfl rfl rfl rfl (c_clear (s_1 dy) ?_)
      refine x_opp rfl rfl ?_
      refine a_callS rfl rfl rfl rfl (c_isGridNumber ?_)
      rw [hM1]
      refine a_ifT rfl rfl br_nez (by first | exact hg | exact nt_f hg | exact tnf hg | exact fnt hg | exact Int32.not_lt.mp hg | exact Int32.not_le.mp hg | exact Int32.not_lt.mpr hg | exact Int32.not_le.mpr hg) ?_
      refine x_opp rfl rfl ?_
      refine m_getg (s_0 dy) rfl rfl rfl ?_
      refine x_opp rfl rfl ?_
      refine a_gr hG4 rfl rfl hgr ?_
      iterate 4 (refine x_opp rfl rfl ?_)
      refine a_callV sg rfl rfl rfl rfl (c_sq hG4 g1 ?_)
      rw [e1]
      refine x_opp rfl rfl ?_
      refine x_opp rfl rfl ?_
      refine a_ifT rfl rfl br_eq (by decide) ?_
      refine x_opp rfl rfl ?_
      refine a_ifF rfl rfl br_eqz (tnf rfl) ?_
      refine x_opp rfl rfl ?_
      refine x_opp rfl rfl ?_
      refine m_getg sg rfl rfl rfl ?_
      refine x_kcg rfl ?_
      refine x_opp rfl rfl ?_
      rw [e67]
      refine a_icT rfl rfl br_ne (by first | exact hl | exact nt_f hl | exact tnf hl | exact fnt hl | exact Int32.not_lt.mp hl | exact Int32.not_le.mp hl | exact Int32.not_lt.mpr hl | exact Int32.not_le.mpr hl) ?_
      refine x_opp rfl rfl ?_
      refine x_kcg rfl ?_
      refine a_putJ 11 (s_0 dy) rfl rfl rfl rfl ?_
      iterate 4 (refine x_opp rfl rfl ?_)
      refine a_ifF rfl rfl br_eqz (tnf rfl) ?_
      refine x_kcg rfl ?_
      refine x_go rfl ?_
      refine x_opp rfl rfl ?_
      refine a_callV sg rfl rfl rfl rfl (c_pBar hG4 i1 i2 ?_)
      rw [show (m_setI M1 0 11 0).1 (46 + 5 * G) (i * 7 + j) = M1.1 (46 + 5 * G) (i * 7 + j) from by rw [mI_ne _ _ _ (by omega)], hw]
      refine a_ifT rfl rfl br_eq (by decide) ?_
      refine x_kcg rfl ?_
      refine x_go rfl ?_
      refine a_iret rfl rfl rfl ?_
      obtain ⟨M3, hM3⟩ : ∃ M3, m_setI (m_setI M1 0 11 0) (46 + 5 * G) (i * 7 + j) (if o = true then M1.1 (46 + 5 * G) (i * 7 + j) ||| 64 else M1.1 (46 + 5 * G) (i * 7 + j) &&& (64 ^^^ (-1))) = M3 := ⟨_, rfl⟩
      rw [hM3]
      refine ⟨_, dy, _, rfl, rfl, ?_⟩; refine e_intro rfl rfl ?_
      obtain ⟨M4, hM4⟩ : ∃ M4, m_setI M3 65 19 0 = M4 := ⟨_, rfl⟩
      have f4 : ∀ a i, 66 ≤ a → a ≤ 69 → M4.1 a i = M1.1 a i := fun a i x y => by rw [← hM4, ← hM3]; repeat (first | rw [mI_at, if_neg (by omega)])
      obtain ⟨e2, mk4⟩ := wr M4 f4
      have q2 : M4.1 67 G = M1.1 67 G := f4 _ _ (by decide) (by decide)
      have s4 : M4.1 72 = M1.1 72 := by rw [← hM4, ← hM3, mI_ne _ _ _ (by decide), mI_ne _ _ _ (by omega), mI_ne _ _ _ (by decide)]
      refine x_opp rfl rfl ?_
      refine x_kcg rfl ?_
      refine a_putJ 19 (s_65 dy) rfl rfl rfl rfl ?_
      refine x_opp rfl rfl ?_
      refine a_callS rfl rfl rfl rfl (k_isGrid ?_)
      rw [hM4]
      refine a_ifT rfl rfl br_nez (by first | exact hg | exact nt_f hg | exact tnf hg | exact fnt hg | exact Int32.not_lt.mp hg | exact Int32.not_le.mp hg | exact Int32.not_lt.mpr hg | exact Int32.not_le.mpr hg) ?_
      iterate 4 (refine x_opp rfl rfl ?_)
      refine a_callV (s_65 dy) rfl rfl rfl rfl (k_wrong hG4 mk4 ?_)
      rw [e2]
      refine x_opp rfl rfl ?_
      refine x_opp rfl rfl ?_
      refine a_ifT rfl rfl br_le (by decide) ?_
      refine x_opp rfl rfl ?_
      refine a_ifF rfl rfl br_eqz (tnf rfl) ?_
      refine x_opp rfl rfl ?_
      refine x_opp rfl rfl ?_
      refine m_getg (s_65 dy) rfl rfl rfl ?_
      refine x_opp rfl rfl ?_
      refine a_ialdN (s_67 dy) (k := G) rfl rfl rfl (by omega) (by decide) ?_
      refine x_kcg rfl ?_
      refine x_opp rfl rfl ?_
      rw [q2]
      refine a_icT rfl rfl br_ne (by first | exact hl | exact nt_f hl | exact tnf hl | exact fnt hl | exact Int32.not_lt.mp hl | exact Int32.not_le.mp hl | exact Int32.not_lt.mpr hl | exact Int32.not_le.mpr hl) ?_
      iterate 3 (refine x_opp rfl rfl ?_)
      refine a_callS rfl rfl rfl rfl (k_sq ?_)
      refine x_opp rfl rfl ?_
      refine x_opp rfl rfl ?_
      refine a_ifF rfl rfl br_eqz (tnf rfl) ?_
      refine x_opp rfl rfl ?_
      refine m_getg (s_65 dy) rfl rfl rfl ?_
      refine x_opp rfl rfl ?_
      refine a_baldN (s_72 dy) (k := 49 * G + (i * 7 + j)) rfl rfl rfl (by omega) (by decide) ?_
      refine x_go rfl ?_
      refine x_opp rfl rfl ?_
      refine x_opp rfl rfl ?_
      rw [s4, x]
      refine a_ifF rfl rfl br_eqz (tnf rfl) ?_
      refine x_opp rfl rfl ?_
      refine m_getg (s_65 dy) rfl rfl rfl ?_
      refine x_opp rfl rfl ?_
      refine x_opp rfl rfl ?_
      refine a_bastN (s_72 dy) (k := 49 * G + (i * 7 + j)) rfl rfl rfl (by omega) (by decide) (by first | exact zz_01 _ | exact Or.inl rfl | exact Or.inr rfl) ?_
      refine x_go rfl ?_
      refine x_opp rfl rfl ?_
      refine a_callV (s_65 dy) rfl rfl rfl rfl (k_changed ?_)
      refine x_opp rfl rfl ?_
      refine a_ifT rfl rfl br_eq (by decide) ?_
      refine x_kcg rfl ?_
      refine x_go rfl ?_
      refine a_iret rfl rfl rfl ?_
      refine ⟨rfl, _, rfl, ?_⟩
      subst hM4
      subst hM3
      subst hM1
      exact R_bar72 hN hL hQ hG hG4 i3 i4 i1 i2 (by rw [mI_ne _ _ _ (by omega)]) rfl
    · have hw : (if M1.1 (46 + 5 * G) (i * 7 + j) &&& 64 = 0 then (0 : Int32) else 1) = 1 := by rw [u4, x]; decide
      refine x_opp rfl rfl ?_
      refine m_getg (s_0 dy) rfl rfl rfl ?_
      refine a_callV (s_1 dy) rfl rfl rfl rfl (c_clear (s_1 dy) ?_)
      refine x_opp rfl rfl ?_
      refine a_callS rfl rfl rfl rfl (c_isGridNumber ?_)
      rw [hM1]
      refine a_ifT rfl rfl br_nez (by first | exact hg | exact nt_f hg | exact tnf hg | exact fnt hg | exact Int32.not_lt.mp hg | exact Int32.not_le.mp hg | exact Int32.not_lt.mpr hg | exact Int32.not_le.mpr hg) ?_
      refine x_opp rfl rfl ?_
      refine m_getg (s_0 dy) rfl rfl rfl ?_
      refine x_opp rfl rfl ?_
      refine a_gr hG4 rfl rfl hgr ?_
      iterate 4 (refine x_opp rfl rfl ?_)
      refine a_callV sg rfl rfl rfl rfl (c_sq hG4 g1 ?_)
      rw [e1]
      refine x_opp rfl rfl ?_
      refine x_opp rfl rfl ?_
      refine a_ifT rfl rfl br_eq (by decide) ?_
      refine x_opp rfl rfl ?_
      refine a_ifF rfl rfl br_eqz (tnf rfl) ?_
      refine x_opp rfl rfl ?_
      refine x_opp rfl rfl ?_
      refine m_getg sg rfl rfl rfl ?_
      refine x_kcg rfl ?_
      refine x_opp rfl rfl ?_
      rw [e67]
      refine a_icT rfl rfl br_ne (by first | exact hl | exact nt_f hl | exact tnf hl | exact fnt hl | exact Int32.not_lt.mp hl | exact Int32.not_le.mp hl | exact Int32.not_lt.mpr hl | exact Int32.not_le.mpr hl) ?_
      refine x_opp rfl rfl ?_
      refine x_kcg rfl ?_
      refine a_putJ 11 (s_0 dy) rfl rfl rfl rfl ?_
      iterate 4 (refine x_opp rfl rfl ?_)
      refine a_ifF rfl rfl br_eqz (tnf rfl) ?_
      refine x_kcg rfl ?_
      refine x_go rfl ?_
      refine x_opp rfl rfl ?_
      refine a_callV sg rfl rfl rfl rfl (c_pBar hG4 i1 i2 ?_)
      rw [show (m_setI M1 0 11 0).1 (46 + 5 * G) (i * 7 + j) = M1.1 (46 + 5 * G) (i * 7 + j) from by rw [mI_ne _ _ _ (by omega)], hw]
      refine a_ifF rfl rfl br_eq (by decide) ?_
      refine x_kcg rfl ?_
      refine x_go rfl ?_
      refine a_iret rfl rfl rfl ?_
      obtain ⟨M3, hM3⟩ : ∃ M3, m_setI (m_setI M1 0 11 0) (46 + 5 * G) (i * 7 + j) (if o = true then M1.1 (46 + 5 * G) (i * 7 + j) ||| 64 else M1.1 (46 + 5 * G) (i * 7 + j) &&& (64 ^^^ (-1))) = M3 := ⟨_, rfl⟩
      rw [hM3]
      refine ⟨_, dy, _, rfl, rfl, ?_⟩; refine e_intro rfl rfl ?_
      obtain ⟨M4, hM4⟩ : ∃ M4, m_setI M3 65 19 0 = M4 := ⟨_, rfl⟩
      have f4 : ∀ a i, 66 ≤ a → a ≤ 69 → M4.1 a i = M1.1 a i := fun a i x y => by rw [← hM4, ← hM3]; repeat (first | rw [mI_at, if_neg (by omega)])
      obtain ⟨e2, mk4⟩ := wr M4 f4
      have q2 : M4.1 67 G = M1.1 67 G := f4 _ _ (by decide) (by decide)
      have s4 : M4.1 72 = M1.1 72 := by rw [← hM4, ← hM3, mI_ne _ _ _ (by decide), mI_ne _ _ _ (by omega), mI_ne _ _ _ (by decide)]
      refine x_opp rfl rfl ?_
      refine x_kcg rfl ?_
      refine a_putJ 19 (s_65 dy) rfl rfl rfl rfl ?_
      refine x_opp rfl rfl ?_
      refine a_callS rfl rfl rfl rfl (k_isGrid ?_)
      rw [hM4]
      refine a_ifT rfl rfl br_nez (by first | exact hg | exact nt_f hg | exact tnf hg | exact fnt hg | exact Int32.not_lt.mp hg | exact Int32.not_le.mp hg | exact Int32.not_lt.mpr hg | exact Int32.not_le.mpr hg) ?_
      iterate 4 (refine x_opp rfl rfl ?_)
      refine a_callV (s_65 dy) rfl rfl rfl rfl (k_wrong hG4 mk4 ?_)
      rw [e2]
      refine x_opp rfl rfl ?_
      refine x_opp rfl rfl ?_
      refine a_ifT rfl rfl br_le (by decide) ?_
      refine x_opp rfl rfl ?_
      refine a_ifF rfl rfl br_eqz (tnf rfl) ?_
      refine x_opp rfl rfl ?_
      refine x_opp rfl rfl ?_
      refine m_getg (s_65 dy) rfl rfl rfl ?_
      refine x_opp rfl rfl ?_
      refine a_ialdN (s_67 dy) (k := G) rfl rfl rfl (by omega) (by decide) ?_
      refine x_kcg rfl ?_
      refine x_opp rfl rfl ?_
      rw [q2]
      refine a_icT rfl rfl br_ne (by first | exact hl | exact nt_f hl | exact tnf hl | exact fnt hl | exact Int32.not_lt.mp hl | exact Int32.not_le.mp hl | exact Int32.not_lt.mpr hl | exact Int32.not_le.mpr hl) ?_
      iterate 3 (refine x_opp rfl rfl ?_)
      refine a_callS rfl rfl rfl rfl (k_sq ?_)
      refine x_opp rfl rfl ?_
      refine x_opp rfl rfl ?_
      refine a_ifF rfl rfl br_eqz (tnf rfl) ?_
      refine x_opp rfl rfl ?_
      refine m_getg (s_65 dy) rfl rfl rfl ?_
      refine x_opp rfl rfl ?_
      refine a_baldN (s_72 dy) (k := 49 * G + (i * 7 + j)) rfl rfl rfl (by omega) (by decide) ?_
      refine x_go rfl ?_
      refine x_opp rfl rfl ?_
      refine x_opp rfl rfl ?_
      rw [s4, x]
      refine a_ifF rfl rfl br_eqz (tnf rfl) ?_
      refine x_opp rfl rfl ?_
      refine m_getg (s_65 dy) rfl rfl rfl ?_
      refine x_opp rfl rfl ?_
      refine x_opp rfl rfl ?_
      refine a_bastN (s_72 dy) (k := 49 * G + (i * 7 + j)) rfl rfl rfl (by omega) (by decide) (by first | exact zz_01 _ | exact Or.inl rfl | exact Or.inr rfl) ?_
      refine x_go rfl ?_
      refine x_opp rfl rfl ?_
      refine a_callV (s_65 dy) rfl rfl rfl rfl (k_changed ?_)
      refine x_opp rfl rfl ?_
      refine a_ifF rfl rfl br_eq (by decide) ?_
      refine x_kcg rfl ?_
      refine x_go rfl ?_
      refine a_iret rfl rfl rfl ?_
      refine ⟨rfl, _, rfl, ?_⟩
      subst hM4
      subst hM3
      subst hM1
      exact R_bar72 hN hL hQ hG hG4 i3 i4 i1 i2 (by rw [mI_ne _ _ _ (by omega)]) rfl
set_option maxRecDepth 4000 in
theorem p_bar {g r c : Int32} {b o : Bool} (h : rR t dy M) : pr L xs t dy M 23 159 [.int g, .int r, .int c, .int (zz b), .int (zz o)] := by
  by_cases hg : gRow 4 g = true
  · obtain ⟨G, hG4, rfl⟩ := gRow4 hg
    rcases gSR_r ((m_setI M 1 5 0).1 66 G) ((m_setI M 1 5 0).1 67 G) (mL (m_setI M 1 5 0) G) r c with e | ⟨k, hk, e⟩
    · cases b
      · exact p_bar71 h hG4 e
      · exact p_bar72 h hG4 e
    · have hR := h; obtain ⟨s, E, P, w, n, hG, hN, hL, hS, hQ⟩ := h; have z0 : (0 : Int32) = 0 := rfl; have z1 : (0 : Int32) ≤ 0 := (by decide); have z11 : ¬ (1 : Int32) = 0 := (by decide); have z12 : ¬ (1 : Int32) ≤ 0 := (by decide); obtain ⟨M1, hM1⟩ : ∃ M1, m_setI M 1 5 0 = M1 := ⟨_, rfl⟩; have g1 : rG M1 n := hM1 ▸ rG_c hG; obtain ⟨M2, hM2⟩ : ∃ M2, m_setI M1 65 19 0 = M2 := ⟨_, rfl⟩; have g2 : rG M2 n := hM2 ▸ rG_z g1
      unfold pr; refine e_intro rfl rfl ?_
      rw [hM1] at e
      have hgr := g1.2.1 G hG4; obtain ⟨sg, sc, sl, ssp, sre, sne⟩ := gsh_at dy G hG4
      have e1 : sr M1 G r c = nI k := e
      have e2 : sr (m_setI (nFind M1 1 3 (nI k)) 65 19 0) G r c = nI k := by rw [sr_f]; exact e
      have g3 : rG (m_setI (nFind M1 1 3 (nI k)) 65 19 0) n := rG_z (rG_f g1)
      obtain ⟨hk0, hk1, hk6⟩ := k12 hk
      refine x_opp rfl rfl ?_
      refine m_getg (s_0 dy) rfl rfl rfl ?_
      refine a_callV (s_1 dy) rfl rfl rfl rfl (c_clear (s_1 dy) ?_)
      refine x_opp rfl rfl ?_
      refine a_callS rfl rfl rfl rfl (c_isGridNumber ?_)
      rw [hM1]
      refine a_ifT rfl rfl br_nez (by first | exact hg | exact nt_f hg | exact tnf hg | exact fnt hg | exact Int32.not_lt.mp hg | exact Int32.not_le.mp hg | exact Int32.not_lt.mpr hg | exact Int32.not_le.mpr hg) ?_
      refine x_opp rfl rfl ?_
      refine m_getg (s_0 dy) rfl rfl rfl ?_
      refine x_opp rfl rfl ?_
      refine a_gr hG4 rfl rfl hgr ?_
      iterate 4 (refine x_opp rfl rfl ?_)
      refine a_callV sg rfl rfl rfl rfl (c_sq hG4 g1 ?_)
      rw [e1]
      refine x_opp rfl rfl ?_
      refine x_opp rfl rfl ?_
      refine a_ifF rfl rfl br_eq (by first | exact hk0 | exact nt_f hk0 | exact tnf hk0 | exact fnt hk0 | exact Int32.not_lt.mp hk0 | exact Int32.not_le.mp hk0 | exact Int32.not_lt.mpr hk0 | exact Int32.not_le.mpr hk0) ?_
      refine x_opp rfl rfl ?_
      refine m_getg (s_0 dy) rfl rfl rfl ?_
      refine x_opp rfl rfl ?_
      refine a_callV (s_1 dy) rfl rfl rfl rfl (c_find (s_1 dy) (s_3 dy) (by decide) (vp_in_nI hk6 (by decide)) ?_)
      refine a_iret rfl rfl rfl ?_
      refine ⟨_, dy, _, rfl, rfl, ?_⟩; refine e_intro rfl rfl ?_
      refine x_opp rfl rfl ?_
      refine x_kcg rfl ?_
      refine a_putJ 19 (s_65 dy) rfl rfl rfl rfl ?_
      refine x_opp rfl rfl ?_
      refine a_callS rfl rfl rfl rfl (k_isGrid ?_)
      refine a_ifT rfl rfl br_nez (by first | exact hg | exact nt_f hg | exact tnf hg | exact fnt hg | exact Int32.not_lt.mp hg | exact Int32.not_le.mp hg | exact Int32.not_lt.mpr hg | exact Int32.not_le.mpr hg) ?_
      iterate 4 (refine x_opp rfl rfl ?_)
      refine a_callV (s_65 dy) rfl rfl rfl rfl (k_wr hG4 g3 ?_)
      rw [e2]
      refine x_opp rfl rfl ?_
      refine x_opp rfl rfl ?_
      refine a_ifF rfl rfl br_le (by first | exact hk1 | exact nt_f hk1 | exact tnf hk1 | exact fnt hk1 | exact Int32.not_lt.mp hk1 | exact Int32.not_le.mp hk1 | exact Int32.not_lt.mpr hk1 | exact Int32.not_le.mpr hk1) ?_
      refine x_opp rfl rfl ?_
      refine x_opp rfl rfl ?_
      refine a_callV (s_65 dy) rfl rfl rfl rfl (k_met (vp_in_nI hk6 (by decide)) ?_)
      refine a_iret rfl rfl rfl ?_
      subst hM1
      exact ⟨rfl, _, rfl, R_fd hk6 hR⟩
  · have hR := h; obtain ⟨s, E, P, w, n, hG, hN, hL, hS, hQ⟩ := h; have z0 : (0 : Int32) = 0 := rfl; have z1 : (0 : Int32) ≤ 0 := (by decide); have z11 : ¬ (1 : Int32) = 0 := (by decide); have z12 : ¬ (1 : Int32) ≤ 0 := (by decide); obtain ⟨M1, hM1⟩ : ∃ M1, m_setI M 1 5 0 = M1 := ⟨_, rfl⟩; have g1 : rG M1 n := hM1 ▸ rG_c hG; obtain ⟨M2, hM2⟩ : ∃ M2, m_setI M1 65 19 0 = M2 := ⟨_, rfl⟩; have g2 : rG M2 n := hM2 ▸ rG_z g1
    unfold pr; refine e_intro rfl rfl ?_
    refine x_opp rfl rfl ?_
    refine m_getg (s_0 dy) rfl rfl rfl ?_
    refine a_callV (s_1 dy) rfl rfl rfl rfl (c_clear (s_1 dy) ?_)
    refine x_opp rfl rfl ?_
    refine a_callS rfl rfl rfl rfl (c_isGridNumber ?_)
    rw [hM1]
    refine a_ifF rfl rfl br_nez (by first | exact hg | exact nt_f hg | exact tnf hg | exact fnt hg | exact Int32.not_lt.mp hg | exact Int32.not_le.mp hg | exact Int32.not_lt.mpr hg | exact Int32.not_le.mpr hg) ?_
    refine x_kcg rfl ?_
    refine a_iret rfl rfl rfl ?_
    refine ⟨_, dy, _, rfl, rfl, ?_⟩; refine e_intro rfl rfl ?_
    refine x_opp rfl rfl ?_
    refine x_kcg rfl ?_
    refine a_putJ 19 (s_65 dy) rfl rfl rfl rfl ?_
    refine x_opp rfl rfl ?_
    refine a_callS rfl rfl rfl rfl (k_isGrid ?_)
    rw [hM2]
    refine a_ifF rfl rfl br_nez (by first | exact hg | exact nt_f hg | exact tnf hg | exact fnt hg | exact Int32.not_lt.mp hg | exact Int32.not_le.mp hg | exact Int32.not_lt.mpr hg | exact Int32.not_le.mpr hg) ?_
    refine x_kcg rfl ?_
    refine a_iret rfl rfl rfl ?_
    subst hM2; subst hM1; exact ⟨rfl, _, rfl, R_cl hR⟩
end PF
